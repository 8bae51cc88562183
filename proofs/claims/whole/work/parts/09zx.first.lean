/-! PURE PART: a new KelpShores, a new model -/
set_option maxHeartbeats 4000000 in
set_option maxRecDepth 20000 in
theorem first_c {z : Zt} {w : Vt} {x : Nat} {K : Zt → Vt → Prop} (c0 : CP z [] [(9, x)] [] []) (v0 : VF z w (fun _ _ => 0) (fun _ _ _ => 0)) (hK : ∀ (z9 : Zt) (w9 : Vt) (q900 q901 q902 q904 q906 q907 q909 q911 q912 q913 q900_0 q901_0 q901_1 q901_2 q901_3 q901_4 q902_0 q902_1 q902_2 q902_3 q902_4 q912_0 q912_1 q912_2 q912_3 q912_4 q913_0 q913_1 q913_2 q913_3 q913_4 f0 f1 f2 f3 f4 f5 f6 f7 g0 g1 g2 g3 g4 g5 g6 g7 : Nat), CP z9 [(0, f7, g7), (0, f6, g6), (0, f5, g5), (0, f4, g4), (0, f3, g3), (0, f2, g2), (0, f1, g1), (0, f0, g0), (913, x, q913), (105, q913, q913_4), (104, q913, q913_3), (102, q913, q913_2), (101, q913, q913_1), (100, q913, q913_0), (912, x, q912), (704, q912, q912_4), (703, q912, q912_3), (702, q912, q912_2), (701, q912, q912_1), (700, q912, q912_0), (911, x, q911), (909, x, q909), (907, x, q907), (906, x, q906), (904, x, q904), (902, x, q902), (404, q902, q902_4), (403, q902, q902_3), (402, q902, q902_2), (401, q902, q902_1), (400, q902, q902_0), (901, x, q901), (404, q901, q901_4), (403, q901, q901_3), (402, q901, q901_2), (401, q901, q901_1), (400, q901, q901_0), (900, x, q900), (800, q900, q900_0)] [(1000, g7), (0, f7), (1000, g6), (0, f6), (1000, g5), (0, f5), (1000, g4), (0, f4), (1000, g3), (0, f3), (1000, g2), (0, f2), (1000, g1), (0, f1), (1000, g0), (0, f0), (1105, q913_4), (1104, q913_3), (1102, q913_2), (1101, q913_1), (1100, q913_0), (1, q913), (1704, q912_4), (1703, q912_3), (1702, q912_2), (1701, q912_1), (1700, q912_0), (7, q912), (1911, q911), (1909, q909), (1907, q907), (1906, q906), (1904, q904), (1404, q902_4), (1403, q902_3), (1402, q902_2), (1401, q902_1), (1400, q902_0), (4, q902), (1404, q901_4), (1403, q901_3), (1402, q901_2), (1401, q901_1), (1400, q901_0), (4, q901), (1800, q900_0), (8, q900), (9, x)] [(1909, q909), (1907, q907), (1904, q904)] [(1906, q906, 7, f7), (1906, q906, 6, f6), (1906, q906, 5, f5), (1906, q906, 4, f4), (1906, q906, 3, f3), (1906, q906, 2, f2), (1906, q906, 1, f1), (1906, q906, 0, f0)] → VF z9 w9 (sI (sI (sI (sI (sI (sI (sI (sI (sI (sI (sI (fun _ _ => 0) 406 q901 2) 406 q902 2) 903 x (-1)) 1 f0 4) 1 f1 4) 1 f2 4) 1 f3 4) 1 f4 4) 1 f5 4) 1 f6 4) 1 f7 4) (fun _ _ _ => 0) → [f0, f1, f2, f3, f4, f5, f6, f7].Nodup → [g0, g1, g2, g3, g4, g5, g6, g7].Nodup → ¬ q901 = q902 → ¬ q901_0 = q902_0 → ¬ q901_1 = q902_1 → ¬ q901_2 = q902_2 → ¬ q901_3 = q902_3 → ¬ q901_4 = q902_4 → K z9 w9) : wp_X9_init z x w K := by
  have hx0 : isO z 9 x := c0.2.1 (9, x) List.mem_cons_self
  unfold wp_X9_init
  refine ⟨hx0, ?_⟩
  intro q900 hq900 z1 ez1 w2 ew2
  obtain ⟨cz1, lq900, sz1, mq900, nq900⟩ := c0.new hq900 ez1
  have vz1 := v0.new hq900 ez1 ew2
  have hxz1 : isO z1 9 x := by rw [ez1]; exact isO_nZ hq900 hx0
  have R0 : ∀ b, b ∈ z.2.1 → b ∈ z1.2.1 := sz1
  refine ⟨hxz1, cz1.2.1 (8, q900) List.mem_cons_self, ?_⟩
  refine new8 cz1 vz1 (cz1.2.1 (8, q900) List.mem_cons_self) lq900 (fun z3 w4 q900_0 cz3 vz3 sz3 kz3 uq900_0 mq900_0 => ?_)
  have hxz3 : isO z3 9 x := kz3 _ _ hxz1
  have R1 : ∀ b, b ∈ z1.2.1 → b ∈ z3.2.1 := sz3
  have hqq900 := kz3 _ _ (cz1.2.1 (8, q900) List.mem_cons_self)
  refine ⟨hxz3, hqq900, ?_⟩
  intro z5 ez5
  obtain ⟨cz5, dz5⟩ := cz3.ref (c := 900) (a := x) (b := q900) hxz3.1 (by simp) ez5
  have vz5 := vz3.z dz5
  have hxz5 : isO z5 9 x := by rw [ez5]; exact hxz3
  have R2 : ∀ b, b ∈ z3.2.1 → b ∈ z5.2.1 := fun b h => by rw [dz5]; exact h
  refine ⟨hxz5, ?_⟩
  intro q901 hq901 z6 ez6 w7 ew7
  obtain ⟨cz6, lq901, sz6, mq901, nq901⟩ := cz5.new hq901 ez6
  have vz6 := vz5.new hq901 ez6 ew7
  have hxz6 : isO z6 9 x := by rw [ez6]; exact isO_nZ hq901 hxz5
  have R3 : ∀ b, b ∈ z5.2.1 → b ∈ z6.2.1 := sz6
  refine ⟨hxz6, cz6.2.1 (4, q901) List.mem_cons_self, ?_⟩
  refine new4 cz6 vz6 (cz6.2.1 (4, q901) List.mem_cons_self) lq901 (fun z8 w9 q901_0 q901_1 q901_2 q901_3 q901_4 cz8 vz8 sz8 kz8 uq901_0 mq901_0 uq901_1 mq901_1 uq901_2 mq901_2 uq901_3 mq901_3 uq901_4 mq901_4 => ?_)
  have hxz8 : isO z8 9 x := kz8 _ _ hxz6
  have R4 : ∀ b, b ∈ z6.2.1 → b ∈ z8.2.1 := sz8
  have hqq901 := kz8 _ _ (cz6.2.1 (4, q901) List.mem_cons_self)
  refine ⟨hxz8, hqq901, ?_⟩
  intro z10 ez10
  obtain ⟨cz10, dz10⟩ := cz8.ref (c := 901) (a := x) (b := q901) hxz8.1 (by simp) ez10
  have vz10 := vz8.z dz10
  have hxz10 : isO z10 9 x := by rw [ez10]; exact hxz8
  have R5 : ∀ b, b ∈ z8.2.1 → b ∈ z10.2.1 := fun b h => by rw [dz10]; exact h
  refine ⟨hxz10, ?_⟩
  intro q902 hq902 z11 ez11 w12 ew12
  obtain ⟨cz11, lq902, sz11, mq902, nq902⟩ := cz10.new hq902 ez11
  have vz11 := vz10.new hq902 ez11 ew12
  have hxz11 : isO z11 9 x := by rw [ez11]; exact isO_nZ hq902 hxz10
  have R6 : ∀ b, b ∈ z10.2.1 → b ∈ z11.2.1 := sz11
  refine ⟨hxz11, cz11.2.1 (4, q902) List.mem_cons_self, ?_⟩
  refine new4 cz11 vz11 (cz11.2.1 (4, q902) List.mem_cons_self) lq902 (fun z13 w14 q902_0 q902_1 q902_2 q902_3 q902_4 cz13 vz13 sz13 kz13 uq902_0 mq902_0 uq902_1 mq902_1 uq902_2 mq902_2 uq902_3 mq902_3 uq902_4 mq902_4 => ?_)
  have hxz13 : isO z13 9 x := kz13 _ _ hxz11
  have R7 : ∀ b, b ∈ z11.2.1 → b ∈ z13.2.1 := sz13
  have hqq902 := kz13 _ _ (cz11.2.1 (4, q902) List.mem_cons_self)
  refine ⟨hxz13, hqq902, ?_⟩
  intro z15 ez15
  obtain ⟨cz15, dz15⟩ := cz13.ref (c := 902) (a := x) (b := q902) hxz13.1 (by simp) ez15
  have vz15 := vz13.z dz15
  have hxz15 : isO z15 9 x := by rw [ez15]; exact hxz13
  have R8 : ∀ b, b ∈ z13.2.1 → b ∈ z15.2.1 := fun b h => by rw [dz15]; exact h
  refine ⟨hxz15, ?_⟩
  intro w16 ew16
  have vw16 := vz15.i hxz15.1 ew16
  intro q904 hq904 z17 ez17 w18 ew18
  obtain ⟨cz17, lq904, sz17, mq904, nq904⟩ := cz15.new hq904 ez17
  have vz17 := vw16.new hq904 ez17 ew18
  have hxz17 : isO z17 9 x := by rw [ez17]; exact isO_nZ hq904 hxz15
  have R9 : ∀ b, b ∈ z15.2.1 → b ∈ z17.2.1 := sz17
  refine ⟨hxz17, cz17.2.1 (1904, q904) List.mem_cons_self, ?_⟩
  have cz17E := cz17.emp (k := 1904) (a := q904) mq904 (nq904 1904)
  intro z19 ez19
  obtain ⟨cz19, dz19⟩ := cz17E.ref (c := 904) (a := x) (b := q904) hxz17.1 (by simp) ez19
  have vz19 := vz17.z dz19
  have hxz19 : isO z19 9 x := by rw [ez19]; exact hxz17
  have R10 : ∀ b, b ∈ z17.2.1 → b ∈ z19.2.1 := fun b h => by rw [dz19]; exact h
  refine ⟨hxz19, ?_⟩
  intro q906 hq906 z20 ez20 w21 ew21
  obtain ⟨cz20, lq906, sz20, mq906, nq906⟩ := cz19.new hq906 ez20
  have vz20 := vz19.new hq906 ez20 ew21
  have hxz20 : isO z20 9 x := by rw [ez20]; exact isO_nZ hq906 hxz19
  have R11 : ∀ b, b ∈ z19.2.1 → b ∈ z20.2.1 := sz20
  refine ⟨hxz20, cz20.2.1 (1906, q906) List.mem_cons_self, ?_⟩
  skip
  intro z22 ez22
  obtain ⟨cz22, dz22⟩ := cz20.ref (c := 906) (a := x) (b := q906) hxz20.1 (by simp) ez22
  have vz22 := vz20.z dz22
  have hxz22 : isO z22 9 x := by rw [ez22]; exact hxz20
  have R12 : ∀ b, b ∈ z20.2.1 → b ∈ z22.2.1 := fun b h => by rw [dz22]; exact h
  refine ⟨hxz22, ?_⟩
  intro q907 hq907 z23 ez23 w24 ew24
  obtain ⟨cz23, lq907, sz23, mq907, nq907⟩ := cz22.new hq907 ez23
  have vz23 := vz22.new hq907 ez23 ew24
  have hxz23 : isO z23 9 x := by rw [ez23]; exact isO_nZ hq907 hxz22
  have R13 : ∀ b, b ∈ z22.2.1 → b ∈ z23.2.1 := sz23
  refine ⟨hxz23, cz23.2.1 (1907, q907) List.mem_cons_self, ?_⟩
  have cz23E := cz23.emp (k := 1907) (a := q907) mq907 (nq907 1907)
  intro z25 ez25
  obtain ⟨cz25, dz25⟩ := cz23E.ref (c := 907) (a := x) (b := q907) hxz23.1 (by simp) ez25
  have vz25 := vz23.z dz25
  have hxz25 : isO z25 9 x := by rw [ez25]; exact hxz23
  have R14 : ∀ b, b ∈ z23.2.1 → b ∈ z25.2.1 := fun b h => by rw [dz25]; exact h
  refine ⟨hxz25, ?_⟩
  intro q909 hq909 z26 ez26 w27 ew27
  obtain ⟨cz26, lq909, sz26, mq909, nq909⟩ := cz25.new hq909 ez26
  have vz26 := vz25.new hq909 ez26 ew27
  have hxz26 : isO z26 9 x := by rw [ez26]; exact isO_nZ hq909 hxz25
  have R15 : ∀ b, b ∈ z25.2.1 → b ∈ z26.2.1 := sz26
  refine ⟨hxz26, cz26.2.1 (1909, q909) List.mem_cons_self, ?_⟩
  have cz26E := cz26.emp (k := 1909) (a := q909) mq909 (nq909 1909)
  intro z28 ez28
  obtain ⟨cz28, dz28⟩ := cz26E.ref (c := 909) (a := x) (b := q909) hxz26.1 (by simp) ez28
  have vz28 := vz26.z dz28
  have hxz28 : isO z28 9 x := by rw [ez28]; exact hxz26
  have R16 : ∀ b, b ∈ z26.2.1 → b ∈ z28.2.1 := fun b h => by rw [dz28]; exact h
  refine ⟨hxz28, ?_⟩
  intro q911 hq911 z29 ez29 w30 ew30
  obtain ⟨cz29, lq911, sz29, mq911, nq911⟩ := cz28.new hq911 ez29
  have vz29 := vz28.new hq911 ez29 ew30
  have hxz29 : isO z29 9 x := by rw [ez29]; exact isO_nZ hq911 hxz28
  have R17 : ∀ b, b ∈ z28.2.1 → b ∈ z29.2.1 := sz29
  refine ⟨hxz29, cz29.2.1 (1911, q911) List.mem_cons_self, ?_⟩
  skip
  intro z31 ez31
  obtain ⟨cz31, dz31⟩ := cz29.ref (c := 911) (a := x) (b := q911) hxz29.1 (by simp) ez31
  have vz31 := vz29.z dz31
  have hxz31 : isO z31 9 x := by rw [ez31]; exact hxz29
  have R18 : ∀ b, b ∈ z29.2.1 → b ∈ z31.2.1 := fun b h => by rw [dz31]; exact h
  refine ⟨hxz31, ?_⟩
  intro q912 hq912 z32 ez32 w33 ew33
  obtain ⟨cz32, lq912, sz32, mq912, nq912⟩ := cz31.new hq912 ez32
  have vz32 := vz31.new hq912 ez32 ew33
  have hxz32 : isO z32 9 x := by rw [ez32]; exact isO_nZ hq912 hxz31
  have R19 : ∀ b, b ∈ z31.2.1 → b ∈ z32.2.1 := sz32
  refine ⟨hxz32, cz32.2.1 (7, q912) List.mem_cons_self, ?_⟩
  refine new7 cz32 vz32 (cz32.2.1 (7, q912) List.mem_cons_self) lq912 (fun z34 w35 q912_0 q912_1 q912_2 q912_3 q912_4 cz34 vz34 sz34 kz34 uq912_0 mq912_0 uq912_1 mq912_1 uq912_2 mq912_2 uq912_3 mq912_3 uq912_4 mq912_4 => ?_)
  have hxz34 : isO z34 9 x := kz34 _ _ hxz32
  have R20 : ∀ b, b ∈ z32.2.1 → b ∈ z34.2.1 := sz34
  have hqq912 := kz34 _ _ (cz32.2.1 (7, q912) List.mem_cons_self)
  refine ⟨hxz34, hqq912, ?_⟩
  intro z36 ez36
  obtain ⟨cz36, dz36⟩ := cz34.ref (c := 912) (a := x) (b := q912) hxz34.1 (by simp) ez36
  have vz36 := vz34.z dz36
  have hxz36 : isO z36 9 x := by rw [ez36]; exact hxz34
  have R21 : ∀ b, b ∈ z34.2.1 → b ∈ z36.2.1 := fun b h => by rw [dz36]; exact h
  refine ⟨hxz36, ?_⟩
  intro q913 hq913 z37 ez37 w38 ew38
  obtain ⟨cz37, lq913, sz37, mq913, nq913⟩ := cz36.new hq913 ez37
  have vz37 := vz36.new hq913 ez37 ew38
  have hxz37 : isO z37 9 x := by rw [ez37]; exact isO_nZ hq913 hxz36
  have R22 : ∀ b, b ∈ z36.2.1 → b ∈ z37.2.1 := sz37
  refine ⟨hxz37, cz37.2.1 (1, q913) List.mem_cons_self, ?_⟩
  refine new1 cz37 vz37 (cz37.2.1 (1, q913) List.mem_cons_self) lq913 (fun z39 w40 q913_0 q913_1 q913_2 q913_3 q913_4 cz39 vz39 sz39 kz39 uq913_0 mq913_0 uq913_1 mq913_1 uq913_2 mq913_2 uq913_3 mq913_3 uq913_4 mq913_4 => ?_)
  have hxz39 : isO z39 9 x := kz39 _ _ hxz37
  have R23 : ∀ b, b ∈ z37.2.1 → b ∈ z39.2.1 := sz39
  have hqq913 := kz39 _ _ (cz37.2.1 (1, q913) List.mem_cons_self)
  refine ⟨hxz39, hqq913, ?_⟩
  intro z41 ez41
  obtain ⟨cz41, dz41⟩ := cz39.ref (c := 913) (a := x) (b := q913) hxz39.1 (by simp) ez41
  have vz41 := vz39.z dz41
  have hxz41 : isO z41 9 x := by rw [ez41]; exact hxz39
  have R24 : ∀ b, b ∈ z39.2.1 → b ∈ z41.2.1 := fun b h => by rw [dz41]; exact h
  refine ⟨hxz41, ?_⟩
  refine ⟨q906, (cz41.1 (906, x, q906) (by simp)).2, cz41.2.1 (1906, q906) (by simp), ?_⟩
  intro f0 hf0 z42 ez42 w43 ew43
  obtain ⟨cz42, lf0, sz42, mf0, nf0⟩ := cz41.new hf0 ez42
  have vz42 := vz41.new hf0 ez42 ew43
  have hxz42 : isO z42 9 x := by rw [ez42]; exact isO_nZ hf0 hxz41
  have R25 : ∀ b, b ∈ z41.2.1 → b ∈ z42.2.1 := sz42
  refine ⟨hxz42, cz42.2.1 (0, f0) List.mem_cons_self, cz42.2.1 (1906, q906) (by simp), ?_⟩
  refine new0 cz42 vz42 (cz42.2.1 (0, f0) List.mem_cons_self) lf0 (fun z44 w45 g0 cz44 vz44 sz44 kz44 ug0 mg0 => ?_)
  have hxz44 : isO z44 9 x := kz44 _ _ hxz42
  have R26 : ∀ b, b ∈ z42.2.1 → b ∈ z44.2.1 := sz44
  refine ⟨hxz44, cz44.2.1 (0, f0) (by simp), cz44.2.1 (1906, q906) (by simp), (vp_in_nI (show 0 < 8 by decide) (by decide) : vp_in (nI 0) 8), ?_⟩
  intro z46 ez46
  obtain ⟨cz46, dz46⟩ := cz44.put (k := 1906) (a := q906) (j := 0) (b := f0) (cz44.2.1 (1906, q906) (by simp)).1 (by simp) (by simp) ez46
  have vz46 := vz44.z dz46
  have hxz46 : isO z46 9 x := by rw [ez46]; exact hxz44
  have R27 : ∀ b, b ∈ z44.2.1 → b ∈ z46.2.1 := fun b h => by rw [dz46]; exact h
  refine ⟨hxz46, ?_⟩
  refine ⟨q906, (cz46.1 (906, x, q906) (by simp)).2, cz46.2.1 (1906, q906) (by simp), ?_⟩
  intro f1 hf1 z47 ez47 w48 ew48
  obtain ⟨cz47, lf1, sz47, mf1, nf1⟩ := cz46.new hf1 ez47
  have vz47 := vz46.new hf1 ez47 ew48
  have hxz47 : isO z47 9 x := by rw [ez47]; exact isO_nZ hf1 hxz46
  have R28 : ∀ b, b ∈ z46.2.1 → b ∈ z47.2.1 := sz47
  refine ⟨hxz47, cz47.2.1 (0, f1) List.mem_cons_self, cz47.2.1 (1906, q906) (by simp), ?_⟩
  refine new0 cz47 vz47 (cz47.2.1 (0, f1) List.mem_cons_self) lf1 (fun z49 w50 g1 cz49 vz49 sz49 kz49 ug1 mg1 => ?_)
  have hxz49 : isO z49 9 x := kz49 _ _ hxz47
  have R29 : ∀ b, b ∈ z47.2.1 → b ∈ z49.2.1 := sz49
  refine ⟨hxz49, cz49.2.1 (0, f1) (by simp), cz49.2.1 (1906, q906) (by simp), (vp_in_nI (show 1 < 8 by decide) (by decide) : vp_in (nI 1) 8), ?_⟩
  intro z51 ez51
  obtain ⟨cz51, dz51⟩ := cz49.put (k := 1906) (a := q906) (j := 1) (b := f1) (cz49.2.1 (1906, q906) (by simp)).1 (by simp) (by simp) ez51
  have vz51 := vz49.z dz51
  have hxz51 : isO z51 9 x := by rw [ez51]; exact hxz49
  have R30 : ∀ b, b ∈ z49.2.1 → b ∈ z51.2.1 := fun b h => by rw [dz51]; exact h
  refine ⟨hxz51, ?_⟩
  refine ⟨q906, (cz51.1 (906, x, q906) (by simp)).2, cz51.2.1 (1906, q906) (by simp), ?_⟩
  intro f2 hf2 z52 ez52 w53 ew53
  obtain ⟨cz52, lf2, sz52, mf2, nf2⟩ := cz51.new hf2 ez52
  have vz52 := vz51.new hf2 ez52 ew53
  have hxz52 : isO z52 9 x := by rw [ez52]; exact isO_nZ hf2 hxz51
  have R31 : ∀ b, b ∈ z51.2.1 → b ∈ z52.2.1 := sz52
  refine ⟨hxz52, cz52.2.1 (0, f2) List.mem_cons_self, cz52.2.1 (1906, q906) (by simp), ?_⟩
  refine new0 cz52 vz52 (cz52.2.1 (0, f2) List.mem_cons_self) lf2 (fun z54 w55 g2 cz54 vz54 sz54 kz54 ug2 mg2 => ?_)
  have hxz54 : isO z54 9 x := kz54 _ _ hxz52
  have R32 : ∀ b, b ∈ z52.2.1 → b ∈ z54.2.1 := sz54
  refine ⟨hxz54, cz54.2.1 (0, f2) (by simp), cz54.2.1 (1906, q906) (by simp), (vp_in_nI (show 2 < 8 by decide) (by decide) : vp_in (nI 2) 8), ?_⟩
  intro z56 ez56
  obtain ⟨cz56, dz56⟩ := cz54.put (k := 1906) (a := q906) (j := 2) (b := f2) (cz54.2.1 (1906, q906) (by simp)).1 (by simp) (by simp) ez56
  have vz56 := vz54.z dz56
  have hxz56 : isO z56 9 x := by rw [ez56]; exact hxz54
  have R33 : ∀ b, b ∈ z54.2.1 → b ∈ z56.2.1 := fun b h => by rw [dz56]; exact h
  refine ⟨hxz56, ?_⟩
  refine ⟨q906, (cz56.1 (906, x, q906) (by simp)).2, cz56.2.1 (1906, q906) (by simp), ?_⟩
  intro f3 hf3 z57 ez57 w58 ew58
  obtain ⟨cz57, lf3, sz57, mf3, nf3⟩ := cz56.new hf3 ez57
  have vz57 := vz56.new hf3 ez57 ew58
  have hxz57 : isO z57 9 x := by rw [ez57]; exact isO_nZ hf3 hxz56
  have R34 : ∀ b, b ∈ z56.2.1 → b ∈ z57.2.1 := sz57
  refine ⟨hxz57, cz57.2.1 (0, f3) List.mem_cons_self, cz57.2.1 (1906, q906) (by simp), ?_⟩
  refine new0 cz57 vz57 (cz57.2.1 (0, f3) List.mem_cons_self) lf3 (fun z59 w60 g3 cz59 vz59 sz59 kz59 ug3 mg3 => ?_)
  have hxz59 : isO z59 9 x := kz59 _ _ hxz57
  have R35 : ∀ b, b ∈ z57.2.1 → b ∈ z59.2.1 := sz59
  refine ⟨hxz59, cz59.2.1 (0, f3) (by simp), cz59.2.1 (1906, q906) (by simp), (vp_in_nI (show 3 < 8 by decide) (by decide) : vp_in (nI 3) 8), ?_⟩
  intro z61 ez61
  obtain ⟨cz61, dz61⟩ := cz59.put (k := 1906) (a := q906) (j := 3) (b := f3) (cz59.2.1 (1906, q906) (by simp)).1 (by simp) (by simp) ez61
  have vz61 := vz59.z dz61
  have hxz61 : isO z61 9 x := by rw [ez61]; exact hxz59
  have R36 : ∀ b, b ∈ z59.2.1 → b ∈ z61.2.1 := fun b h => by rw [dz61]; exact h
  refine ⟨hxz61, ?_⟩
  refine ⟨q906, (cz61.1 (906, x, q906) (by simp)).2, cz61.2.1 (1906, q906) (by simp), ?_⟩
  intro f4 hf4 z62 ez62 w63 ew63
  obtain ⟨cz62, lf4, sz62, mf4, nf4⟩ := cz61.new hf4 ez62
  have vz62 := vz61.new hf4 ez62 ew63
  have hxz62 : isO z62 9 x := by rw [ez62]; exact isO_nZ hf4 hxz61
  have R37 : ∀ b, b ∈ z61.2.1 → b ∈ z62.2.1 := sz62
  refine ⟨hxz62, cz62.2.1 (0, f4) List.mem_cons_self, cz62.2.1 (1906, q906) (by simp), ?_⟩
  refine new0 cz62 vz62 (cz62.2.1 (0, f4) List.mem_cons_self) lf4 (fun z64 w65 g4 cz64 vz64 sz64 kz64 ug4 mg4 => ?_)
  have hxz64 : isO z64 9 x := kz64 _ _ hxz62
  have R38 : ∀ b, b ∈ z62.2.1 → b ∈ z64.2.1 := sz64
  refine ⟨hxz64, cz64.2.1 (0, f4) (by simp), cz64.2.1 (1906, q906) (by simp), (vp_in_nI (show 4 < 8 by decide) (by decide) : vp_in (nI 4) 8), ?_⟩
  intro z66 ez66
  obtain ⟨cz66, dz66⟩ := cz64.put (k := 1906) (a := q906) (j := 4) (b := f4) (cz64.2.1 (1906, q906) (by simp)).1 (by simp) (by simp) ez66
  have vz66 := vz64.z dz66
  have hxz66 : isO z66 9 x := by rw [ez66]; exact hxz64
  have R39 : ∀ b, b ∈ z64.2.1 → b ∈ z66.2.1 := fun b h => by rw [dz66]; exact h
  refine ⟨hxz66, ?_⟩
  refine ⟨q906, (cz66.1 (906, x, q906) (by simp)).2, cz66.2.1 (1906, q906) (by simp), ?_⟩
  intro f5 hf5 z67 ez67 w68 ew68
  obtain ⟨cz67, lf5, sz67, mf5, nf5⟩ := cz66.new hf5 ez67
  have vz67 := vz66.new hf5 ez67 ew68
  have hxz67 : isO z67 9 x := by rw [ez67]; exact isO_nZ hf5 hxz66
  have R40 : ∀ b, b ∈ z66.2.1 → b ∈ z67.2.1 := sz67
  refine ⟨hxz67, cz67.2.1 (0, f5) List.mem_cons_self, cz67.2.1 (1906, q906) (by simp), ?_⟩
  refine new0 cz67 vz67 (cz67.2.1 (0, f5) List.mem_cons_self) lf5 (fun z69 w70 g5 cz69 vz69 sz69 kz69 ug5 mg5 => ?_)
  have hxz69 : isO z69 9 x := kz69 _ _ hxz67
  have R41 : ∀ b, b ∈ z67.2.1 → b ∈ z69.2.1 := sz69
  refine ⟨hxz69, cz69.2.1 (0, f5) (by simp), cz69.2.1 (1906, q906) (by simp), (vp_in_nI (show 5 < 8 by decide) (by decide) : vp_in (nI 5) 8), ?_⟩
  intro z71 ez71
  obtain ⟨cz71, dz71⟩ := cz69.put (k := 1906) (a := q906) (j := 5) (b := f5) (cz69.2.1 (1906, q906) (by simp)).1 (by simp) (by simp) ez71
  have vz71 := vz69.z dz71
  have hxz71 : isO z71 9 x := by rw [ez71]; exact hxz69
  have R42 : ∀ b, b ∈ z69.2.1 → b ∈ z71.2.1 := fun b h => by rw [dz71]; exact h
  refine ⟨hxz71, ?_⟩
  refine ⟨q906, (cz71.1 (906, x, q906) (by simp)).2, cz71.2.1 (1906, q906) (by simp), ?_⟩
  intro f6 hf6 z72 ez72 w73 ew73
  obtain ⟨cz72, lf6, sz72, mf6, nf6⟩ := cz71.new hf6 ez72
  have vz72 := vz71.new hf6 ez72 ew73
  have hxz72 : isO z72 9 x := by rw [ez72]; exact isO_nZ hf6 hxz71
  have R43 : ∀ b, b ∈ z71.2.1 → b ∈ z72.2.1 := sz72
  refine ⟨hxz72, cz72.2.1 (0, f6) List.mem_cons_self, cz72.2.1 (1906, q906) (by simp), ?_⟩
  refine new0 cz72 vz72 (cz72.2.1 (0, f6) List.mem_cons_self) lf6 (fun z74 w75 g6 cz74 vz74 sz74 kz74 ug6 mg6 => ?_)
  have hxz74 : isO z74 9 x := kz74 _ _ hxz72
  have R44 : ∀ b, b ∈ z72.2.1 → b ∈ z74.2.1 := sz74
  refine ⟨hxz74, cz74.2.1 (0, f6) (by simp), cz74.2.1 (1906, q906) (by simp), (vp_in_nI (show 6 < 8 by decide) (by decide) : vp_in (nI 6) 8), ?_⟩
  intro z76 ez76
  obtain ⟨cz76, dz76⟩ := cz74.put (k := 1906) (a := q906) (j := 6) (b := f6) (cz74.2.1 (1906, q906) (by simp)).1 (by simp) (by simp) ez76
  have vz76 := vz74.z dz76
  have hxz76 : isO z76 9 x := by rw [ez76]; exact hxz74
  have R45 : ∀ b, b ∈ z74.2.1 → b ∈ z76.2.1 := fun b h => by rw [dz76]; exact h
  refine ⟨hxz76, ?_⟩
  refine ⟨q906, (cz76.1 (906, x, q906) (by simp)).2, cz76.2.1 (1906, q906) (by simp), ?_⟩
  intro f7 hf7 z77 ez77 w78 ew78
  obtain ⟨cz77, lf7, sz77, mf7, nf7⟩ := cz76.new hf7 ez77
  have vz77 := vz76.new hf7 ez77 ew78
  have hxz77 : isO z77 9 x := by rw [ez77]; exact isO_nZ hf7 hxz76
  have R46 : ∀ b, b ∈ z76.2.1 → b ∈ z77.2.1 := sz77
  refine ⟨hxz77, cz77.2.1 (0, f7) List.mem_cons_self, cz77.2.1 (1906, q906) (by simp), ?_⟩
  refine new0 cz77 vz77 (cz77.2.1 (0, f7) List.mem_cons_self) lf7 (fun z79 w80 g7 cz79 vz79 sz79 kz79 ug7 mg7 => ?_)
  have hxz79 : isO z79 9 x := kz79 _ _ hxz77
  have R47 : ∀ b, b ∈ z77.2.1 → b ∈ z79.2.1 := sz79
  refine ⟨hxz79, cz79.2.1 (0, f7) (by simp), cz79.2.1 (1906, q906) (by simp), (vp_in_nI (show 7 < 8 by decide) (by decide) : vp_in (nI 7) 8), ?_⟩
  intro z81 ez81
  obtain ⟨cz81, dz81⟩ := cz79.put (k := 1906) (a := q906) (j := 7) (b := f7) (cz79.2.1 (1906, q906) (by simp)).1 (by simp) (by simp) ez81
  have vz81 := vz79.z dz81
  have hxz81 : isO z81 9 x := by rw [ez81]; exact hxz79
  have R48 : ∀ b, b ∈ z79.2.1 → b ∈ z81.2.1 := fun b h => by rw [dz81]; exact h
  refine ⟨hxz81, ?_⟩
  refine ⟨q906, (cz81.1 (906, x, q906) (by simp)).2, cz81.2.1 (1906, q906) (by simp), ?_⟩
  have ndf : [f0, f1, f2, f3, f4, f5, f6, f7].Nodup := by
    simp only [List.nodup_cons, List.mem_cons, List.not_mem_nil, or_false, not_or, List.nodup_nil, not_false_eq_true, and_true]
    exact ⟨⟨(fun e => hf1 (e ▸ (R27 _ (R26 _ mf0)))), (fun e => hf2 (e ▸ (R30 _ (R29 _ (R28 _ (R27 _ (R26 _ mf0))))))), (fun e => hf3 (e ▸ (R33 _ (R32 _ (R31 _ (R30 _ (R29 _ (R28 _ (R27 _ (R26 _ mf0)))))))))), (fun e => hf4 (e ▸ (R36 _ (R35 _ (R34 _ (R33 _ (R32 _ (R31 _ (R30 _ (R29 _ (R28 _ (R27 _ (R26 _ mf0))))))))))))), (fun e => hf5 (e ▸ (R39 _ (R38 _ (R37 _ (R36 _ (R35 _ (R34 _ (R33 _ (R32 _ (R31 _ (R30 _ (R29 _ (R28 _ (R27 _ (R26 _ mf0)))))))))))))))), (fun e => hf6 (e ▸ (R42 _ (R41 _ (R40 _ (R39 _ (R38 _ (R37 _ (R36 _ (R35 _ (R34 _ (R33 _ (R32 _ (R31 _ (R30 _ (R29 _ (R28 _ (R27 _ (R26 _ mf0))))))))))))))))))), (fun e => hf7 (e ▸ (R45 _ (R44 _ (R43 _ (R42 _ (R41 _ (R40 _ (R39 _ (R38 _ (R37 _ (R36 _ (R35 _ (R34 _ (R33 _ (R32 _ (R31 _ (R30 _ (R29 _ (R28 _ (R27 _ (R26 _ mf0))))))))))))))))))))))⟩, ⟨(fun e => hf2 (e ▸ (R30 _ (R29 _ mf1)))), (fun e => hf3 (e ▸ (R33 _ (R32 _ (R31 _ (R30 _ (R29 _ mf1))))))), (fun e => hf4 (e ▸ (R36 _ (R35 _ (R34 _ (R33 _ (R32 _ (R31 _ (R30 _ (R29 _ mf1)))))))))), (fun e => hf5 (e ▸ (R39 _ (R38 _ (R37 _ (R36 _ (R35 _ (R34 _ (R33 _ (R32 _ (R31 _ (R30 _ (R29 _ mf1))))))))))))), (fun e => hf6 (e ▸ (R42 _ (R41 _ (R40 _ (R39 _ (R38 _ (R37 _ (R36 _ (R35 _ (R34 _ (R33 _ (R32 _ (R31 _ (R30 _ (R29 _ mf1)))))))))))))))), (fun e => hf7 (e ▸ (R45 _ (R44 _ (R43 _ (R42 _ (R41 _ (R40 _ (R39 _ (R38 _ (R37 _ (R36 _ (R35 _ (R34 _ (R33 _ (R32 _ (R31 _ (R30 _ (R29 _ mf1)))))))))))))))))))⟩, ⟨(fun e => hf3 (e ▸ (R33 _ (R32 _ mf2)))), (fun e => hf4 (e ▸ (R36 _ (R35 _ (R34 _ (R33 _ (R32 _ mf2))))))), (fun e => hf5 (e ▸ (R39 _ (R38 _ (R37 _ (R36 _ (R35 _ (R34 _ (R33 _ (R32 _ mf2)))))))))), (fun e => hf6 (e ▸ (R42 _ (R41 _ (R40 _ (R39 _ (R38 _ (R37 _ (R36 _ (R35 _ (R34 _ (R33 _ (R32 _ mf2))))))))))))), (fun e => hf7 (e ▸ (R45 _ (R44 _ (R43 _ (R42 _ (R41 _ (R40 _ (R39 _ (R38 _ (R37 _ (R36 _ (R35 _ (R34 _ (R33 _ (R32 _ mf2))))))))))))))))⟩, ⟨(fun e => hf4 (e ▸ (R36 _ (R35 _ mf3)))), (fun e => hf5 (e ▸ (R39 _ (R38 _ (R37 _ (R36 _ (R35 _ mf3))))))), (fun e => hf6 (e ▸ (R42 _ (R41 _ (R40 _ (R39 _ (R38 _ (R37 _ (R36 _ (R35 _ mf3)))))))))), (fun e => hf7 (e ▸ (R45 _ (R44 _ (R43 _ (R42 _ (R41 _ (R40 _ (R39 _ (R38 _ (R37 _ (R36 _ (R35 _ mf3)))))))))))))⟩, ⟨(fun e => hf5 (e ▸ (R39 _ (R38 _ mf4)))), (fun e => hf6 (e ▸ (R42 _ (R41 _ (R40 _ (R39 _ (R38 _ mf4))))))), (fun e => hf7 (e ▸ (R45 _ (R44 _ (R43 _ (R42 _ (R41 _ (R40 _ (R39 _ (R38 _ mf4))))))))))⟩, ⟨(fun e => hf6 (e ▸ (R42 _ (R41 _ mf5)))), (fun e => hf7 (e ▸ (R45 _ (R44 _ (R43 _ (R42 _ (R41 _ mf5)))))))⟩, (fun e => hf7 (e ▸ (R45 _ (R44 _ mf6))))⟩
  have ndg : [g0, g1, g2, g3, g4, g5, g6, g7].Nodup := by
    simp only [List.nodup_cons, List.mem_cons, List.not_mem_nil, or_false, not_or, List.nodup_nil, not_false_eq_true, and_true]
    exact ⟨⟨(fun e => ug1 (e ▸ (R28 _ (R27 _ mg0)))), (fun e => ug2 (e ▸ (R31 _ (R30 _ (R29 _ (R28 _ (R27 _ mg0))))))), (fun e => ug3 (e ▸ (R34 _ (R33 _ (R32 _ (R31 _ (R30 _ (R29 _ (R28 _ (R27 _ mg0)))))))))), (fun e => ug4 (e ▸ (R37 _ (R36 _ (R35 _ (R34 _ (R33 _ (R32 _ (R31 _ (R30 _ (R29 _ (R28 _ (R27 _ mg0))))))))))))), (fun e => ug5 (e ▸ (R40 _ (R39 _ (R38 _ (R37 _ (R36 _ (R35 _ (R34 _ (R33 _ (R32 _ (R31 _ (R30 _ (R29 _ (R28 _ (R27 _ mg0)))))))))))))))), (fun e => ug6 (e ▸ (R43 _ (R42 _ (R41 _ (R40 _ (R39 _ (R38 _ (R37 _ (R36 _ (R35 _ (R34 _ (R33 _ (R32 _ (R31 _ (R30 _ (R29 _ (R28 _ (R27 _ mg0))))))))))))))))))), (fun e => ug7 (e ▸ (R46 _ (R45 _ (R44 _ (R43 _ (R42 _ (R41 _ (R40 _ (R39 _ (R38 _ (R37 _ (R36 _ (R35 _ (R34 _ (R33 _ (R32 _ (R31 _ (R30 _ (R29 _ (R28 _ (R27 _ mg0))))))))))))))))))))))⟩, ⟨(fun e => ug2 (e ▸ (R31 _ (R30 _ mg1)))), (fun e => ug3 (e ▸ (R34 _ (R33 _ (R32 _ (R31 _ (R30 _ mg1))))))), (fun e => ug4 (e ▸ (R37 _ (R36 _ (R35 _ (R34 _ (R33 _ (R32 _ (R31 _ (R30 _ mg1)))))))))), (fun e => ug5 (e ▸ (R40 _ (R39 _ (R38 _ (R37 _ (R36 _ (R35 _ (R34 _ (R33 _ (R32 _ (R31 _ (R30 _ mg1))))))))))))), (fun e => ug6 (e ▸ (R43 _ (R42 _ (R41 _ (R40 _ (R39 _ (R38 _ (R37 _ (R36 _ (R35 _ (R34 _ (R33 _ (R32 _ (R31 _ (R30 _ mg1)))))))))))))))), (fun e => ug7 (e ▸ (R46 _ (R45 _ (R44 _ (R43 _ (R42 _ (R41 _ (R40 _ (R39 _ (R38 _ (R37 _ (R36 _ (R35 _ (R34 _ (R33 _ (R32 _ (R31 _ (R30 _ mg1)))))))))))))))))))⟩, ⟨(fun e => ug3 (e ▸ (R34 _ (R33 _ mg2)))), (fun e => ug4 (e ▸ (R37 _ (R36 _ (R35 _ (R34 _ (R33 _ mg2))))))), (fun e => ug5 (e ▸ (R40 _ (R39 _ (R38 _ (R37 _ (R36 _ (R35 _ (R34 _ (R33 _ mg2)))))))))), (fun e => ug6 (e ▸ (R43 _ (R42 _ (R41 _ (R40 _ (R39 _ (R38 _ (R37 _ (R36 _ (R35 _ (R34 _ (R33 _ mg2))))))))))))), (fun e => ug7 (e ▸ (R46 _ (R45 _ (R44 _ (R43 _ (R42 _ (R41 _ (R40 _ (R39 _ (R38 _ (R37 _ (R36 _ (R35 _ (R34 _ (R33 _ mg2))))))))))))))))⟩, ⟨(fun e => ug4 (e ▸ (R37 _ (R36 _ mg3)))), (fun e => ug5 (e ▸ (R40 _ (R39 _ (R38 _ (R37 _ (R36 _ mg3))))))), (fun e => ug6 (e ▸ (R43 _ (R42 _ (R41 _ (R40 _ (R39 _ (R38 _ (R37 _ (R36 _ mg3)))))))))), (fun e => ug7 (e ▸ (R46 _ (R45 _ (R44 _ (R43 _ (R42 _ (R41 _ (R40 _ (R39 _ (R38 _ (R37 _ (R36 _ mg3)))))))))))))⟩, ⟨(fun e => ug5 (e ▸ (R40 _ (R39 _ mg4)))), (fun e => ug6 (e ▸ (R43 _ (R42 _ (R41 _ (R40 _ (R39 _ mg4))))))), (fun e => ug7 (e ▸ (R46 _ (R45 _ (R44 _ (R43 _ (R42 _ (R41 _ (R40 _ (R39 _ mg4))))))))))⟩, ⟨(fun e => ug6 (e ▸ (R43 _ (R42 _ mg5)))), (fun e => ug7 (e ▸ (R46 _ (R45 _ (R44 _ (R43 _ (R42 _ mg5)))))))⟩, (fun e => ug7 (e ▸ (R46 _ (R45 _ mg6))))⟩
  exact hK z81 w80 q900 q901 q902 q904 q906 q907 q909 q911 q912 q913 q900_0 q901_0 q901_1 q901_2 q901_3 q901_4 q902_0 q902_1 q902_2 q902_3 q902_4 q912_0 q912_1 q912_2 q912_3 q912_4 q913_0 q913_1 q913_2 q913_3 q913_4 f0 f1 f2 f3 f4 f5 f6 f7 g0 g1 g2 g3 g4 g5 g6 g7 cz81 vz81 ndf ndg (fun e => hq902 (e ▸ (R5 _ (R4 _ mq901)))) (fun e => uq902_0 (e ▸ (R6 _ (R5 _ mq901_0)))) (fun e => uq902_1 (e ▸ (R6 _ (R5 _ mq901_1)))) (fun e => uq902_2 (e ▸ (R6 _ (R5 _ mq901_2)))) (fun e => uq902_3 (e ▸ (R6 _ (R5 _ mq901_3)))) (fun e => uq902_4 (e ▸ (R6 _ (R5 _ mq901_4))))
set_option maxHeartbeats 4000000 in
set_option maxRecDepth 20000 in
theorem first_m {z : Zt} {w : Vt} {x : Nat} {K : Zt → Vt → Prop} (c0 : CP z [] [(10, x)] [] []) (v0 : VF z w (fun _ _ => 0) (fun _ _ _ => 0)) (hK : ∀ (z9 : Zt) (w9 : Vt) (q1003 q1004 q1005 q1006 q1007 q1008 q1009 q1010 q1011 q1012 q1013 q1015 q1016 q1017 q1018 q1019 q1020 q1021 q1022 q1023 q1024 q1025 q1027 q1028 q1033 q1039 q1040 q1042 q1043 q1044 q1045 q1046 q1048 q1049 q1050 q1052 : Nat), CP z9 [(1052, x, q1052), (1050, x, q1050), (1049, x, q1049), (1048, x, q1048), (1046, x, q1046), (1045, x, q1045), (1044, x, q1044), (1043, x, q1043), (1042, x, q1042), (1040, x, q1040), (1039, x, q1039), (1033, x, q1033), (1028, x, q1028), (1027, x, q1027), (1025, x, q1025), (1024, x, q1024), (1023, x, q1023), (1022, x, q1022), (1021, x, q1021), (1020, x, q1020), (1019, x, q1019), (1018, x, q1018), (1017, x, q1017), (1016, x, q1016), (1015, x, q1015), (1013, x, q1013), (1012, x, q1012), (1011, x, q1011), (1010, x, q1010), (1009, x, q1009), (1008, x, q1008), (1007, x, q1007), (1006, x, q1006), (1005, x, q1005), (1004, x, q1004), (1003, x, q1003)] [(2052, q1052), (2050, q1050), (2049, q1049), (2048, q1048), (2046, q1046), (2045, q1045), (2044, q1044), (2043, q1043), (2042, q1042), (2040, q1040), (2039, q1039), (2033, q1033), (2028, q1028), (2027, q1027), (2025, q1025), (2024, q1024), (2023, q1023), (2022, q1022), (2021, q1021), (2020, q1020), (2019, q1019), (2018, q1018), (2017, q1017), (2016, q1016), (2015, q1015), (2013, q1013), (2012, q1012), (2011, q1011), (2010, q1010), (2009, q1009), (2008, q1008), (2007, q1007), (2006, q1006), (2005, q1005), (2004, q1004), (2003, q1003), (10, x)] [] [] → VF z9 w9 (sI (sI (fun _ _ => 0) 1031 x 2) 1038 x (-1)) (sA (sA (sA (sA (sA (sA (sA (sA (fun _ _ _ => 0) 2015 q1015 0 4) 2015 q1015 1 4) 2015 q1015 2 4) 2015 q1015 3 4) 2015 q1015 4 4) 2015 q1015 5 4) 2015 q1015 6 4) 2015 q1015 7 4) → K z9 w9) : wp_X10_init z x w K := by
  have hx0 : isO z 10 x := c0.2.1 (10, x) List.mem_cons_self
  unfold wp_X10_init
  refine ⟨hx0, ?_⟩
  intro q1003 hq1003 z1 ez1 w2 ew2
  obtain ⟨cz1, -, -, mq1003, -⟩ := c0.new hq1003 ez1
  have vz1 := v0.new hq1003 ez1 ew2
  have hxz1 : isO z1 10 x := by rw [ez1]; exact isO_nZ hq1003 hx0
  refine ⟨hxz1, cz1.2.1 (2003, q1003) List.mem_cons_self, ?_⟩
  intro z3 ez3
  obtain ⟨cz3, dz3⟩ := cz1.ref (c := 1003) (a := x) (b := q1003) hxz1.1 (by simp) ez3
  have vz3 := vz1.z dz3
  have hxz3 : isO z3 10 x := by rw [ez3]; exact hxz1
  refine ⟨hxz3, ?_⟩
  intro q1004 hq1004 z4 ez4 w5 ew5
  obtain ⟨cz4, -, -, mq1004, -⟩ := cz3.new hq1004 ez4
  have vz4 := vz3.new hq1004 ez4 ew5
  have hxz4 : isO z4 10 x := by rw [ez4]; exact isO_nZ hq1004 hxz3
  refine ⟨hxz4, cz4.2.1 (2004, q1004) List.mem_cons_self, ?_⟩
  intro z6 ez6
  obtain ⟨cz6, dz6⟩ := cz4.ref (c := 1004) (a := x) (b := q1004) hxz4.1 (by simp) ez6
  have vz6 := vz4.z dz6
  have hxz6 : isO z6 10 x := by rw [ez6]; exact hxz4
  refine ⟨hxz6, ?_⟩
  intro q1005 hq1005 z7 ez7 w8 ew8
  obtain ⟨cz7, -, -, mq1005, -⟩ := cz6.new hq1005 ez7
  have vz7 := vz6.new hq1005 ez7 ew8
  have hxz7 : isO z7 10 x := by rw [ez7]; exact isO_nZ hq1005 hxz6
  refine ⟨hxz7, cz7.2.1 (2005, q1005) List.mem_cons_self, ?_⟩
  intro z9 ez9
  obtain ⟨cz9, dz9⟩ := cz7.ref (c := 1005) (a := x) (b := q1005) hxz7.1 (by simp) ez9
  have vz9 := vz7.z dz9
  have hxz9 : isO z9 10 x := by rw [ez9]; exact hxz7
  refine ⟨hxz9, ?_⟩
  intro q1006 hq1006 z10 ez10 w11 ew11
  obtain ⟨cz10, -, -, mq1006, -⟩ := cz9.new hq1006 ez10
  have vz10 := vz9.new hq1006 ez10 ew11
  have hxz10 : isO z10 10 x := by rw [ez10]; exact isO_nZ hq1006 hxz9
  refine ⟨hxz10, cz10.2.1 (2006, q1006) List.mem_cons_self, ?_⟩
  intro z12 ez12
  obtain ⟨cz12, dz12⟩ := cz10.ref (c := 1006) (a := x) (b := q1006) hxz10.1 (by simp) ez12
  have vz12 := vz10.z dz12
  have hxz12 : isO z12 10 x := by rw [ez12]; exact hxz10
  refine ⟨hxz12, ?_⟩
  intro q1007 hq1007 z13 ez13 w14 ew14
  obtain ⟨cz13, -, -, mq1007, -⟩ := cz12.new hq1007 ez13
  have vz13 := vz12.new hq1007 ez13 ew14
  have hxz13 : isO z13 10 x := by rw [ez13]; exact isO_nZ hq1007 hxz12
  refine ⟨hxz13, cz13.2.1 (2007, q1007) List.mem_cons_self, ?_⟩
  intro z15 ez15
  obtain ⟨cz15, dz15⟩ := cz13.ref (c := 1007) (a := x) (b := q1007) hxz13.1 (by simp) ez15
  have vz15 := vz13.z dz15
  have hxz15 : isO z15 10 x := by rw [ez15]; exact hxz13
  refine ⟨hxz15, ?_⟩
  intro q1008 hq1008 z16 ez16 w17 ew17
  obtain ⟨cz16, -, -, mq1008, -⟩ := cz15.new hq1008 ez16
  have vz16 := vz15.new hq1008 ez16 ew17
  have hxz16 : isO z16 10 x := by rw [ez16]; exact isO_nZ hq1008 hxz15
  refine ⟨hxz16, cz16.2.1 (2008, q1008) List.mem_cons_self, ?_⟩
  intro z18 ez18
  obtain ⟨cz18, dz18⟩ := cz16.ref (c := 1008) (a := x) (b := q1008) hxz16.1 (by simp) ez18
  have vz18 := vz16.z dz18
  have hxz18 : isO z18 10 x := by rw [ez18]; exact hxz16
  refine ⟨hxz18, ?_⟩
  intro q1009 hq1009 z19 ez19 w20 ew20
  obtain ⟨cz19, -, -, mq1009, -⟩ := cz18.new hq1009 ez19
  have vz19 := vz18.new hq1009 ez19 ew20
  have hxz19 : isO z19 10 x := by rw [ez19]; exact isO_nZ hq1009 hxz18
  refine ⟨hxz19, cz19.2.1 (2009, q1009) List.mem_cons_self, ?_⟩
  intro z21 ez21
  obtain ⟨cz21, dz21⟩ := cz19.ref (c := 1009) (a := x) (b := q1009) hxz19.1 (by simp) ez21
  have vz21 := vz19.z dz21
  have hxz21 : isO z21 10 x := by rw [ez21]; exact hxz19
  refine ⟨hxz21, ?_⟩
  intro q1010 hq1010 z22 ez22 w23 ew23
  obtain ⟨cz22, -, -, mq1010, -⟩ := cz21.new hq1010 ez22
  have vz22 := vz21.new hq1010 ez22 ew23
  have hxz22 : isO z22 10 x := by rw [ez22]; exact isO_nZ hq1010 hxz21
  refine ⟨hxz22, cz22.2.1 (2010, q1010) List.mem_cons_self, ?_⟩
  intro z24 ez24
  obtain ⟨cz24, dz24⟩ := cz22.ref (c := 1010) (a := x) (b := q1010) hxz22.1 (by simp) ez24
  have vz24 := vz22.z dz24
  have hxz24 : isO z24 10 x := by rw [ez24]; exact hxz22
  refine ⟨hxz24, ?_⟩
  intro q1011 hq1011 z25 ez25 w26 ew26
  obtain ⟨cz25, -, -, mq1011, -⟩ := cz24.new hq1011 ez25
  have vz25 := vz24.new hq1011 ez25 ew26
  have hxz25 : isO z25 10 x := by rw [ez25]; exact isO_nZ hq1011 hxz24
  refine ⟨hxz25, cz25.2.1 (2011, q1011) List.mem_cons_self, ?_⟩
  intro z27 ez27
  obtain ⟨cz27, dz27⟩ := cz25.ref (c := 1011) (a := x) (b := q1011) hxz25.1 (by simp) ez27
  have vz27 := vz25.z dz27
  have hxz27 : isO z27 10 x := by rw [ez27]; exact hxz25
  refine ⟨hxz27, ?_⟩
  intro q1012 hq1012 z28 ez28 w29 ew29
  obtain ⟨cz28, -, -, mq1012, -⟩ := cz27.new hq1012 ez28
  have vz28 := vz27.new hq1012 ez28 ew29
  have hxz28 : isO z28 10 x := by rw [ez28]; exact isO_nZ hq1012 hxz27
  refine ⟨hxz28, cz28.2.1 (2012, q1012) List.mem_cons_self, ?_⟩
  intro z30 ez30
  obtain ⟨cz30, dz30⟩ := cz28.ref (c := 1012) (a := x) (b := q1012) hxz28.1 (by simp) ez30
  have vz30 := vz28.z dz30
  have hxz30 : isO z30 10 x := by rw [ez30]; exact hxz28
  refine ⟨hxz30, ?_⟩
  intro q1013 hq1013 z31 ez31 w32 ew32
  obtain ⟨cz31, -, -, mq1013, -⟩ := cz30.new hq1013 ez31
  have vz31 := vz30.new hq1013 ez31 ew32
  have hxz31 : isO z31 10 x := by rw [ez31]; exact isO_nZ hq1013 hxz30
  refine ⟨hxz31, cz31.2.1 (2013, q1013) List.mem_cons_self, ?_⟩
  intro z33 ez33
  obtain ⟨cz33, dz33⟩ := cz31.ref (c := 1013) (a := x) (b := q1013) hxz31.1 (by simp) ez33
  have vz33 := vz31.z dz33
  have hxz33 : isO z33 10 x := by rw [ez33]; exact hxz31
  refine ⟨hxz33, ?_⟩
  intro q1015 hq1015 z34 ez34 w35 ew35
  obtain ⟨cz34, -, -, mq1015, -⟩ := cz33.new hq1015 ez34
  have vz34 := vz33.new hq1015 ez34 ew35
  have hxz34 : isO z34 10 x := by rw [ez34]; exact isO_nZ hq1015 hxz33
  refine ⟨hxz34, cz34.2.1 (2015, q1015) List.mem_cons_self, ?_⟩
  refine ⟨(vp_in_nI (show 0 < 8 by decide) (by decide) : vp_in (nI 0) 8), fun w36 ew36 => ?_⟩
  have vw36 := vz34.a mq1015 ew36
  refine ⟨(vp_in_nI (show 1 < 8 by decide) (by decide) : vp_in (nI 1) 8), fun w37 ew37 => ?_⟩
  have vw37 := vw36.a mq1015 ew37
  refine ⟨(vp_in_nI (show 2 < 8 by decide) (by decide) : vp_in (nI 2) 8), fun w38 ew38 => ?_⟩
  have vw38 := vw37.a mq1015 ew38
  refine ⟨(vp_in_nI (show 3 < 8 by decide) (by decide) : vp_in (nI 3) 8), fun w39 ew39 => ?_⟩
  have vw39 := vw38.a mq1015 ew39
  refine ⟨(vp_in_nI (show 4 < 8 by decide) (by decide) : vp_in (nI 4) 8), fun w40 ew40 => ?_⟩
  have vw40 := vw39.a mq1015 ew40
  refine ⟨(vp_in_nI (show 5 < 8 by decide) (by decide) : vp_in (nI 5) 8), fun w41 ew41 => ?_⟩
  have vw41 := vw40.a mq1015 ew41
  refine ⟨(vp_in_nI (show 6 < 8 by decide) (by decide) : vp_in (nI 6) 8), fun w42 ew42 => ?_⟩
  have vw42 := vw41.a mq1015 ew42
  refine ⟨(vp_in_nI (show 7 < 8 by decide) (by decide) : vp_in (nI 7) 8), fun w43 ew43 => ?_⟩
  have vw43 := vw42.a mq1015 ew43
  intro z44 ez44
  obtain ⟨cz44, dz44⟩ := cz34.ref (c := 1015) (a := x) (b := q1015) hxz34.1 (by simp) ez44
  have vz44 := vw43.z dz44
  have hxz44 : isO z44 10 x := by rw [ez44]; exact hxz34
  refine ⟨hxz44, ?_⟩
  intro q1016 hq1016 z45 ez45 w46 ew46
  obtain ⟨cz45, -, -, mq1016, -⟩ := cz44.new hq1016 ez45
  have vz45 := vz44.new hq1016 ez45 ew46
  have hxz45 : isO z45 10 x := by rw [ez45]; exact isO_nZ hq1016 hxz44
  refine ⟨hxz45, cz45.2.1 (2016, q1016) List.mem_cons_self, ?_⟩
  intro z47 ez47
  obtain ⟨cz47, dz47⟩ := cz45.ref (c := 1016) (a := x) (b := q1016) hxz45.1 (by simp) ez47
  have vz47 := vz45.z dz47
  have hxz47 : isO z47 10 x := by rw [ez47]; exact hxz45
  refine ⟨hxz47, ?_⟩
  intro q1017 hq1017 z48 ez48 w49 ew49
  obtain ⟨cz48, -, -, mq1017, -⟩ := cz47.new hq1017 ez48
  have vz48 := vz47.new hq1017 ez48 ew49
  have hxz48 : isO z48 10 x := by rw [ez48]; exact isO_nZ hq1017 hxz47
  refine ⟨hxz48, cz48.2.1 (2017, q1017) List.mem_cons_self, ?_⟩
  intro z50 ez50
  obtain ⟨cz50, dz50⟩ := cz48.ref (c := 1017) (a := x) (b := q1017) hxz48.1 (by simp) ez50
  have vz50 := vz48.z dz50
  have hxz50 : isO z50 10 x := by rw [ez50]; exact hxz48
  refine ⟨hxz50, ?_⟩
  intro q1018 hq1018 z51 ez51 w52 ew52
  obtain ⟨cz51, -, -, mq1018, -⟩ := cz50.new hq1018 ez51
  have vz51 := vz50.new hq1018 ez51 ew52
  have hxz51 : isO z51 10 x := by rw [ez51]; exact isO_nZ hq1018 hxz50
  refine ⟨hxz51, cz51.2.1 (2018, q1018) List.mem_cons_self, ?_⟩
  intro z53 ez53
  obtain ⟨cz53, dz53⟩ := cz51.ref (c := 1018) (a := x) (b := q1018) hxz51.1 (by simp) ez53
  have vz53 := vz51.z dz53
  have hxz53 : isO z53 10 x := by rw [ez53]; exact hxz51
  refine ⟨hxz53, ?_⟩
  intro q1019 hq1019 z54 ez54 w55 ew55
  obtain ⟨cz54, -, -, mq1019, -⟩ := cz53.new hq1019 ez54
  have vz54 := vz53.new hq1019 ez54 ew55
  have hxz54 : isO z54 10 x := by rw [ez54]; exact isO_nZ hq1019 hxz53
  refine ⟨hxz54, cz54.2.1 (2019, q1019) List.mem_cons_self, ?_⟩
  intro z56 ez56
  obtain ⟨cz56, dz56⟩ := cz54.ref (c := 1019) (a := x) (b := q1019) hxz54.1 (by simp) ez56
  have vz56 := vz54.z dz56
  have hxz56 : isO z56 10 x := by rw [ez56]; exact hxz54
  refine ⟨hxz56, ?_⟩
  intro q1020 hq1020 z57 ez57 w58 ew58
  obtain ⟨cz57, -, -, mq1020, -⟩ := cz56.new hq1020 ez57
  have vz57 := vz56.new hq1020 ez57 ew58
  have hxz57 : isO z57 10 x := by rw [ez57]; exact isO_nZ hq1020 hxz56
  refine ⟨hxz57, cz57.2.1 (2020, q1020) List.mem_cons_self, ?_⟩
  intro z59 ez59
  obtain ⟨cz59, dz59⟩ := cz57.ref (c := 1020) (a := x) (b := q1020) hxz57.1 (by simp) ez59
  have vz59 := vz57.z dz59
  have hxz59 : isO z59 10 x := by rw [ez59]; exact hxz57
  refine ⟨hxz59, ?_⟩
  intro q1021 hq1021 z60 ez60 w61 ew61
  obtain ⟨cz60, -, -, mq1021, -⟩ := cz59.new hq1021 ez60
  have vz60 := vz59.new hq1021 ez60 ew61
  have hxz60 : isO z60 10 x := by rw [ez60]; exact isO_nZ hq1021 hxz59
  refine ⟨hxz60, cz60.2.1 (2021, q1021) List.mem_cons_self, ?_⟩
  intro z62 ez62
  obtain ⟨cz62, dz62⟩ := cz60.ref (c := 1021) (a := x) (b := q1021) hxz60.1 (by simp) ez62
  have vz62 := vz60.z dz62
  have hxz62 : isO z62 10 x := by rw [ez62]; exact hxz60
  refine ⟨hxz62, ?_⟩
  intro q1022 hq1022 z63 ez63 w64 ew64
  obtain ⟨cz63, -, -, mq1022, -⟩ := cz62.new hq1022 ez63
  have vz63 := vz62.new hq1022 ez63 ew64
  have hxz63 : isO z63 10 x := by rw [ez63]; exact isO_nZ hq1022 hxz62
  refine ⟨hxz63, cz63.2.1 (2022, q1022) List.mem_cons_self, ?_⟩
  intro z65 ez65
  obtain ⟨cz65, dz65⟩ := cz63.ref (c := 1022) (a := x) (b := q1022) hxz63.1 (by simp) ez65
  have vz65 := vz63.z dz65
  have hxz65 : isO z65 10 x := by rw [ez65]; exact hxz63
  refine ⟨hxz65, ?_⟩
  intro q1023 hq1023 z66 ez66 w67 ew67
  obtain ⟨cz66, -, -, mq1023, -⟩ := cz65.new hq1023 ez66
  have vz66 := vz65.new hq1023 ez66 ew67
  have hxz66 : isO z66 10 x := by rw [ez66]; exact isO_nZ hq1023 hxz65
  refine ⟨hxz66, cz66.2.1 (2023, q1023) List.mem_cons_self, ?_⟩
  intro z68 ez68
  obtain ⟨cz68, dz68⟩ := cz66.ref (c := 1023) (a := x) (b := q1023) hxz66.1 (by simp) ez68
  have vz68 := vz66.z dz68
  have hxz68 : isO z68 10 x := by rw [ez68]; exact hxz66
  refine ⟨hxz68, ?_⟩
  intro q1024 hq1024 z69 ez69 w70 ew70
  obtain ⟨cz69, -, -, mq1024, -⟩ := cz68.new hq1024 ez69
  have vz69 := vz68.new hq1024 ez69 ew70
  have hxz69 : isO z69 10 x := by rw [ez69]; exact isO_nZ hq1024 hxz68
  refine ⟨hxz69, cz69.2.1 (2024, q1024) List.mem_cons_self, ?_⟩
  intro z71 ez71
  obtain ⟨cz71, dz71⟩ := cz69.ref (c := 1024) (a := x) (b := q1024) hxz69.1 (by simp) ez71
  have vz71 := vz69.z dz71
  have hxz71 : isO z71 10 x := by rw [ez71]; exact hxz69
  refine ⟨hxz71, ?_⟩
  intro q1025 hq1025 z72 ez72 w73 ew73
  obtain ⟨cz72, -, -, mq1025, -⟩ := cz71.new hq1025 ez72
  have vz72 := vz71.new hq1025 ez72 ew73
  have hxz72 : isO z72 10 x := by rw [ez72]; exact isO_nZ hq1025 hxz71
  refine ⟨hxz72, cz72.2.1 (2025, q1025) List.mem_cons_self, ?_⟩
  intro z74 ez74
  obtain ⟨cz74, dz74⟩ := cz72.ref (c := 1025) (a := x) (b := q1025) hxz72.1 (by simp) ez74
  have vz74 := vz72.z dz74
  have hxz74 : isO z74 10 x := by rw [ez74]; exact hxz72
  refine ⟨hxz74, ?_⟩
  intro q1027 hq1027 z75 ez75 w76 ew76
  obtain ⟨cz75, -, -, mq1027, -⟩ := cz74.new hq1027 ez75
  have vz75 := vz74.new hq1027 ez75 ew76
  have hxz75 : isO z75 10 x := by rw [ez75]; exact isO_nZ hq1027 hxz74
  refine ⟨hxz75, cz75.2.1 (2027, q1027) List.mem_cons_self, ?_⟩
  intro z77 ez77
  obtain ⟨cz77, dz77⟩ := cz75.ref (c := 1027) (a := x) (b := q1027) hxz75.1 (by simp) ez77
  have vz77 := vz75.z dz77
  have hxz77 : isO z77 10 x := by rw [ez77]; exact hxz75
  refine ⟨hxz77, ?_⟩
  intro q1028 hq1028 z78 ez78 w79 ew79
  obtain ⟨cz78, -, -, mq1028, -⟩ := cz77.new hq1028 ez78
  have vz78 := vz77.new hq1028 ez78 ew79
  have hxz78 : isO z78 10 x := by rw [ez78]; exact isO_nZ hq1028 hxz77
  refine ⟨hxz78, cz78.2.1 (2028, q1028) List.mem_cons_self, ?_⟩
  intro z80 ez80
  obtain ⟨cz80, dz80⟩ := cz78.ref (c := 1028) (a := x) (b := q1028) hxz78.1 (by simp) ez80
  have vz80 := vz78.z dz80
  have hxz80 : isO z80 10 x := by rw [ez80]; exact hxz78
  refine ⟨hxz80, ?_⟩
  intro w83 ew83
  have vw83 := vz80.i hxz80.1 ew83
  intro q1033 hq1033 z81 ez81 w82 ew82
  obtain ⟨cz81, -, -, mq1033, -⟩ := cz80.new hq1033 ez81
  have vz81 := vw83.new hq1033 ez81 ew82
  have hxz81 : isO z81 10 x := by rw [ez81]; exact isO_nZ hq1033 hxz80
  refine ⟨hxz81, cz81.2.1 (2033, q1033) List.mem_cons_self, ?_⟩
  intro z84 ez84
  obtain ⟨cz84, dz84⟩ := cz81.ref (c := 1033) (a := x) (b := q1033) hxz81.1 (by simp) ez84
  have vz84 := vz81.z dz84
  have hxz84 : isO z84 10 x := by rw [ez84]; exact hxz81
  refine ⟨hxz84, ?_⟩
  intro w87 ew87
  have vw87 := vz84.i hxz84.1 ew87
  intro q1039 hq1039 z85 ez85 w86 ew86
  obtain ⟨cz85, -, -, mq1039, -⟩ := cz84.new hq1039 ez85
  have vz85 := vw87.new hq1039 ez85 ew86
  have hxz85 : isO z85 10 x := by rw [ez85]; exact isO_nZ hq1039 hxz84
  refine ⟨hxz85, cz85.2.1 (2039, q1039) List.mem_cons_self, ?_⟩
  intro z88 ez88
  obtain ⟨cz88, dz88⟩ := cz85.ref (c := 1039) (a := x) (b := q1039) hxz85.1 (by simp) ez88
  have vz88 := vz85.z dz88
  have hxz88 : isO z88 10 x := by rw [ez88]; exact hxz85
  refine ⟨hxz88, ?_⟩
  intro q1040 hq1040 z89 ez89 w90 ew90
  obtain ⟨cz89, -, -, mq1040, -⟩ := cz88.new hq1040 ez89
  have vz89 := vz88.new hq1040 ez89 ew90
  have hxz89 : isO z89 10 x := by rw [ez89]; exact isO_nZ hq1040 hxz88
  refine ⟨hxz89, cz89.2.1 (2040, q1040) List.mem_cons_self, ?_⟩
  intro z91 ez91
  obtain ⟨cz91, dz91⟩ := cz89.ref (c := 1040) (a := x) (b := q1040) hxz89.1 (by simp) ez91
  have vz91 := vz89.z dz91
  have hxz91 : isO z91 10 x := by rw [ez91]; exact hxz89
  refine ⟨hxz91, ?_⟩
  intro q1042 hq1042 z92 ez92 w93 ew93
  obtain ⟨cz92, -, -, mq1042, -⟩ := cz91.new hq1042 ez92
  have vz92 := vz91.new hq1042 ez92 ew93
  have hxz92 : isO z92 10 x := by rw [ez92]; exact isO_nZ hq1042 hxz91
  refine ⟨hxz92, cz92.2.1 (2042, q1042) List.mem_cons_self, ?_⟩
  intro z94 ez94
  obtain ⟨cz94, dz94⟩ := cz92.ref (c := 1042) (a := x) (b := q1042) hxz92.1 (by simp) ez94
  have vz94 := vz92.z dz94
  have hxz94 : isO z94 10 x := by rw [ez94]; exact hxz92
  refine ⟨hxz94, ?_⟩
  intro q1043 hq1043 z95 ez95 w96 ew96
  obtain ⟨cz95, -, -, mq1043, -⟩ := cz94.new hq1043 ez95
  have vz95 := vz94.new hq1043 ez95 ew96
  have hxz95 : isO z95 10 x := by rw [ez95]; exact isO_nZ hq1043 hxz94
  refine ⟨hxz95, cz95.2.1 (2043, q1043) List.mem_cons_self, ?_⟩
  intro z97 ez97
  obtain ⟨cz97, dz97⟩ := cz95.ref (c := 1043) (a := x) (b := q1043) hxz95.1 (by simp) ez97
  have vz97 := vz95.z dz97
  have hxz97 : isO z97 10 x := by rw [ez97]; exact hxz95
  refine ⟨hxz97, ?_⟩
  intro q1044 hq1044 z98 ez98 w99 ew99
  obtain ⟨cz98, -, -, mq1044, -⟩ := cz97.new hq1044 ez98
  have vz98 := vz97.new hq1044 ez98 ew99
  have hxz98 : isO z98 10 x := by rw [ez98]; exact isO_nZ hq1044 hxz97
  refine ⟨hxz98, cz98.2.1 (2044, q1044) List.mem_cons_self, ?_⟩
  intro z100 ez100
  obtain ⟨cz100, dz100⟩ := cz98.ref (c := 1044) (a := x) (b := q1044) hxz98.1 (by simp) ez100
  have vz100 := vz98.z dz100
  have hxz100 : isO z100 10 x := by rw [ez100]; exact hxz98
  refine ⟨hxz100, ?_⟩
  intro q1045 hq1045 z101 ez101 w102 ew102
  obtain ⟨cz101, -, -, mq1045, -⟩ := cz100.new hq1045 ez101
  have vz101 := vz100.new hq1045 ez101 ew102
  have hxz101 : isO z101 10 x := by rw [ez101]; exact isO_nZ hq1045 hxz100
  refine ⟨hxz101, cz101.2.1 (2045, q1045) List.mem_cons_self, ?_⟩
  intro z103 ez103
  obtain ⟨cz103, dz103⟩ := cz101.ref (c := 1045) (a := x) (b := q1045) hxz101.1 (by simp) ez103
  have vz103 := vz101.z dz103
  have hxz103 : isO z103 10 x := by rw [ez103]; exact hxz101
  refine ⟨hxz103, ?_⟩
  intro q1046 hq1046 z104 ez104 w105 ew105
  obtain ⟨cz104, -, -, mq1046, -⟩ := cz103.new hq1046 ez104
  have vz104 := vz103.new hq1046 ez104 ew105
  have hxz104 : isO z104 10 x := by rw [ez104]; exact isO_nZ hq1046 hxz103
  refine ⟨hxz104, cz104.2.1 (2046, q1046) List.mem_cons_self, ?_⟩
  intro z106 ez106
  obtain ⟨cz106, dz106⟩ := cz104.ref (c := 1046) (a := x) (b := q1046) hxz104.1 (by simp) ez106
  have vz106 := vz104.z dz106
  have hxz106 : isO z106 10 x := by rw [ez106]; exact hxz104
  refine ⟨hxz106, ?_⟩
  intro q1048 hq1048 z107 ez107 w108 ew108
  obtain ⟨cz107, -, -, mq1048, -⟩ := cz106.new hq1048 ez107
  have vz107 := vz106.new hq1048 ez107 ew108
  have hxz107 : isO z107 10 x := by rw [ez107]; exact isO_nZ hq1048 hxz106
  refine ⟨hxz107, cz107.2.1 (2048, q1048) List.mem_cons_self, ?_⟩
  intro z109 ez109
  obtain ⟨cz109, dz109⟩ := cz107.ref (c := 1048) (a := x) (b := q1048) hxz107.1 (by simp) ez109
  have vz109 := vz107.z dz109
  have hxz109 : isO z109 10 x := by rw [ez109]; exact hxz107
  refine ⟨hxz109, ?_⟩
  intro q1049 hq1049 z110 ez110 w111 ew111
  obtain ⟨cz110, -, -, mq1049, -⟩ := cz109.new hq1049 ez110
  have vz110 := vz109.new hq1049 ez110 ew111
  have hxz110 : isO z110 10 x := by rw [ez110]; exact isO_nZ hq1049 hxz109
  refine ⟨hxz110, cz110.2.1 (2049, q1049) List.mem_cons_self, ?_⟩
  intro z112 ez112
  obtain ⟨cz112, dz112⟩ := cz110.ref (c := 1049) (a := x) (b := q1049) hxz110.1 (by simp) ez112
  have vz112 := vz110.z dz112
  have hxz112 : isO z112 10 x := by rw [ez112]; exact hxz110
  refine ⟨hxz112, ?_⟩
  intro q1050 hq1050 z113 ez113 w114 ew114
  obtain ⟨cz113, -, -, mq1050, -⟩ := cz112.new hq1050 ez113
  have vz113 := vz112.new hq1050 ez113 ew114
  have hxz113 : isO z113 10 x := by rw [ez113]; exact isO_nZ hq1050 hxz112
  refine ⟨hxz113, cz113.2.1 (2050, q1050) List.mem_cons_self, ?_⟩
  intro z115 ez115
  obtain ⟨cz115, dz115⟩ := cz113.ref (c := 1050) (a := x) (b := q1050) hxz113.1 (by simp) ez115
  have vz115 := vz113.z dz115
  have hxz115 : isO z115 10 x := by rw [ez115]; exact hxz113
  refine ⟨hxz115, ?_⟩
  intro q1052 hq1052 z116 ez116 w117 ew117
  obtain ⟨cz116, -, -, mq1052, -⟩ := cz115.new hq1052 ez116
  have vz116 := vz115.new hq1052 ez116 ew117
  have hxz116 : isO z116 10 x := by rw [ez116]; exact isO_nZ hq1052 hxz115
  refine ⟨hxz116, cz116.2.1 (2052, q1052) List.mem_cons_self, ?_⟩
  intro z118 ez118
  obtain ⟨cz118, dz118⟩ := cz116.ref (c := 1052) (a := x) (b := q1052) hxz116.1 (by simp) ez118
  have vz118 := vz116.z dz118
  have hxz118 : isO z118 10 x := by rw [ez118]; exact hxz116
  refine ⟨hxz118, ?_⟩
  exact hK _ _ q1003 q1004 q1005 q1006 q1007 q1008 q1009 q1010 q1011 q1012 q1013 q1015 q1016 q1017 q1018 q1019 q1020 q1021 q1022 q1023 q1024 q1025 q1027 q1028 q1033 q1039 q1040 q1042 q1043 q1044 q1045 q1046 q1048 q1049 q1050 q1052 cz118 vz118
