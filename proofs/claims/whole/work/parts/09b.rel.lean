/-! PURE PART: the relation of the two worlds -/
abbrev SM (z : Zt) (m : Nat) (M : Nat → Nat) : Prop := isO z 10 m ∧ zR z 1003 m = some (M 1003) ∧ isO z 2003 (M 1003) ∧ zR z 1004 m = some (M 1004) ∧ isO z 2004 (M 1004) ∧ zR z 1005 m = some (M 1005) ∧ isO z 2005 (M 1005) ∧ zR z 1006 m = some (M 1006) ∧ isO z 2006 (M 1006) ∧ zR z 1007 m = some (M 1007) ∧ isO z 2007 (M 1007) ∧ zR z 1008 m = some (M 1008) ∧ isO z 2008 (M 1008) ∧ zR z 1009 m = some (M 1009) ∧ isO z 2009 (M 1009) ∧ zR z 1010 m = some (M 1010) ∧ isO z 2010 (M 1010) ∧ zR z 1011 m = some (M 1011) ∧ isO z 2011 (M 1011) ∧ zR z 1012 m = some (M 1012) ∧ isO z 2012 (M 1012) ∧ zR z 1013 m = some (M 1013) ∧ isO z 2013 (M 1013) ∧ zR z 1015 m = some (M 1015) ∧ isO z 2015 (M 1015) ∧ zR z 1016 m = some (M 1016) ∧ isO z 2016 (M 1016) ∧ zR z 1017 m = some (M 1017) ∧ isO z 2017 (M 1017) ∧ zR z 1018 m = some (M 1018) ∧ isO z 2018 (M 1018) ∧ zR z 1019 m = some (M 1019) ∧ isO z 2019 (M 1019) ∧ zR z 1020 m = some (M 1020) ∧ isO z 2020 (M 1020) ∧ zR z 1021 m = some (M 1021) ∧ isO z 2021 (M 1021) ∧ zR z 1022 m = some (M 1022) ∧ isO z 2022 (M 1022) ∧ zR z 1023 m = some (M 1023) ∧ isO z 2023 (M 1023) ∧ zR z 1024 m = some (M 1024) ∧ isO z 2024 (M 1024) ∧ zR z 1025 m = some (M 1025) ∧ isO z 2025 (M 1025) ∧ zR z 1027 m = some (M 1027) ∧ isO z 2027 (M 1027) ∧ zR z 1028 m = some (M 1028) ∧ isO z 2028 (M 1028) ∧ zR z 1033 m = some (M 1033) ∧ isO z 2033 (M 1033) ∧ zR z 1039 m = some (M 1039) ∧ isO z 2039 (M 1039) ∧ zR z 1040 m = some (M 1040) ∧ isO z 2040 (M 1040) ∧ zR z 1042 m = some (M 1042) ∧ isO z 2042 (M 1042) ∧ zR z 1043 m = some (M 1043) ∧ isO z 2043 (M 1043) ∧ zR z 1044 m = some (M 1044) ∧ isO z 2044 (M 1044) ∧ zR z 1045 m = some (M 1045) ∧ isO z 2045 (M 1045) ∧ zR z 1046 m = some (M 1046) ∧ isO z 2046 (M 1046) ∧ zR z 1048 m = some (M 1048) ∧ isO z 2048 (M 1048) ∧ zR z 1049 m = some (M 1049) ∧ isO z 2049 (M 1049) ∧ zR z 1050 m = some (M 1050) ∧ isO z 2050 (M 1050) ∧ zR z 1052 m = some (M 1052) ∧ isO z 2052 (M 1052)
abbrev SC1 (z : Zt) (x t : Nat) (B : Nat → Nat → Nat → Nat) : Prop := isO z 9 x ∧ isO z 3000 t ∧ zR z 900 x = some (B 900 0 0) ∧ isO z 8 (B 900 0 0) ∧ zR z 901 x = some (B 901 0 0) ∧ isO z 4 (B 901 0 0) ∧ zR z 902 x = some (B 902 0 0) ∧ isO z 4 (B 902 0 0) ∧ zR z 904 x = some (B 904 0 0) ∧ isO z 1904 (B 904 0 0) ∧ zR z 906 x = some (B 906 0 0) ∧ isO z 1906 (B 906 0 0) ∧ zR z 907 x = some (B 907 0 0) ∧ isO z 1907 (B 907 0 0) ∧ zR z 909 x = some (B 909 0 0) ∧ isO z 1909 (B 909 0 0) ∧ zR z 911 x = some (B 911 0 0) ∧ isO z 1911 (B 911 0 0) ∧ zR z 912 x = some (B 912 0 0) ∧ isO z 7 (B 912 0 0) ∧ zR z 913 x = some (B 913 0 0) ∧ isO z 1 (B 913 0 0) ∧ zR z 800 (B 900 0 0) = some (B 800 0 0) ∧ isO z 1800 (B 800 0 0) ∧ zR z 700 (B 912 0 0) = some (B 700 0 0) ∧ isO z 1700 (B 700 0 0) ∧ zR z 701 (B 912 0 0) = some (B 701 0 0) ∧ isO z 1701 (B 701 0 0) ∧ zR z 702 (B 912 0 0) = some (B 702 0 0) ∧ isO z 1702 (B 702 0 0) ∧ zR z 703 (B 912 0 0) = some (B 703 0 0) ∧ isO z 1703 (B 703 0 0) ∧ zR z 704 (B 912 0 0) = some (B 704 0 0) ∧ isO z 1704 (B 704 0 0) ∧ zR z 100 (B 913 0 0) = some (B 100 0 0) ∧ isO z 1100 (B 100 0 0) ∧ zR z 101 (B 913 0 0) = some (B 101 0 0) ∧ isO z 1101 (B 101 0 0) ∧ zR z 102 (B 913 0 0) = some (B 102 0 0) ∧ isO z 1102 (B 102 0 0) ∧ zR z 104 (B 913 0 0) = some (B 104 0 0) ∧ isO z 1104 (B 104 0 0) ∧ zR z 105 (B 913 0 0) = some (B 105 0 0) ∧ isO z 1105 (B 105 0 0) ∧ zR z 400 (B 901 0 0) = some (B 400 0 0) ∧ isO z 1400 (B 400 0 0) ∧ zR z 401 (B 901 0 0) = some (B 401 0 0) ∧ isO z 1401 (B 401 0 0) ∧ zR z 402 (B 901 0 0) = some (B 402 0 0) ∧ isO z 1402 (B 402 0 0) ∧ zR z 403 (B 901 0 0) = some (B 403 0 0) ∧ isO z 1403 (B 403 0 0) ∧ zR z 404 (B 901 0 0) = some (B 404 0 0) ∧ isO z 1404 (B 404 0 0) ∧ zR z 400 (B 902 0 0) = some (B 400 1 0) ∧ isO z 1400 (B 400 1 0) ∧ zR z 401 (B 902 0 0) = some (B 401 1 0) ∧ isO z 1401 (B 401 1 0) ∧ zR z 402 (B 902 0 0) = some (B 402 1 0) ∧ isO z 1402 (B 402 1 0) ∧ zR z 403 (B 902 0 0) = some (B 403 1 0) ∧ isO z 1403 (B 403 1 0) ∧ zR z 404 (B 902 0 0) = some (B 404 1 0) ∧ isO z 1404 (B 404 1 0) ∧ B 901 0 0 ≠ B 902 0 0 ∧ B 400 0 0 ≠ B 400 1 0 ∧ B 401 0 0 ≠ B 401 1 0 ∧ B 402 0 0 ≠ B 402 1 0 ∧ B 403 0 0 ≠ B 403 1 0 ∧ B 404 0 0 ≠ B 404 1 0
abbrev SCf (z : Zt) (B : Nat → Nat → Nat → Nat) : Prop := (∀ i, i < 8 → zO z 1906 (B 906 0 0) i = some (B 1906 i 0) ∧ isO z 0 (B 1906 i 0) ∧ zR z 0 (B 1906 i 0) = some (B 0 i 0) ∧ isO z 1000 (B 0 i 0)) ∧ (∀ i j, i < 8 → j < 8 → (B 1906 i 0 = B 1906 j 0 ↔ i = j)) ∧ (∀ i j, i < 8 → j < 8 → (B 0 i 0 = B 0 j 0 ↔ i = j))
abbrev SCs (z : Zt) (B : Nat → Nat → Nat → Nat) (N : Nat → Nat → Nat) : Prop := N 905 0 ≤ 6 ∧ (∀ i, i < 6 → zO z 1904 (B 904 0 0) i = if i < N 905 0 then some (B 1904 i 0) else none) ∧ (∀ i, i < N 905 0 → isO z 6 (B 1904 i 0) ∧ zR z 600 (B 1904 i 0) = some (B 600 i 0) ∧ isO z 1600 (B 600 i 0) ∧ N 601 i ≤ 4) ∧ (∀ i j, i < N 905 0 → j < N 905 0 → (B 1904 i 0 = B 1904 j 0 ↔ i = j)) ∧ (∀ i j, i < N 905 0 → j < N 905 0 → (B 600 i 0 = B 600 j 0 ↔ i = j))
abbrev SCr (z : Zt) (B : Nat → Nat → Nat → Nat) (N : Nat → Nat → Nat) : Prop := (∀ i r, i < N 905 0 → r < 4 → zO z 1600 (B 600 i 0) r = if r < N 601 i then some (B 1600 i r) else none) ∧ (∀ i r, i < N 905 0 → r < N 601 i → isO z 5 (B 1600 i r)) ∧ (∀ i r j q, i < N 905 0 → r < N 601 i → j < N 905 0 → q < N 601 j → (B 1600 i r = B 1600 j q ↔ i = j ∧ r = q))
abbrev SCp (z : Zt) (B : Nat → Nat → Nat → Nat) (N : Nat → Nat → Nat) : Prop := N 908 0 ≤ 12 ∧ (∀ i, i < 12 → zO z 1907 (B 907 0 0) i = if i < N 908 0 then some (B 1907 i 0) else none) ∧ (∀ i, i < N 908 0 → isO z 3 (B 1907 i 0) ∧ zR z 300 (B 1907 i 0) = some (B 1906 (N 300 i) 0) ∧ N 300 i < 8) ∧ (∀ i j, i < N 908 0 → j < N 908 0 → (B 1907 i 0 = B 1907 j 0 ↔ i = j))
abbrev SCl (z : Zt) (B : Nat → Nat → Nat → Nat) (N : Nat → Nat → Nat) : Prop := N 910 0 ≤ 60 ∧ (∀ i, i < 60 → zO z 1909 (B 909 0 0) i = if i < N 910 0 then some (B 1909 i 0) else none) ∧ (∀ i, i < N 910 0 → isO z 2 (B 1909 i 0)) ∧ (∀ i j, i < N 910 0 → j < N 910 0 → (B 1909 i 0 = B 1909 j 0 ↔ i = j))
abbrev SC (z : Zt) (x t : Nat) (B : Nat → Nat → Nat → Nat) (N : Nat → Nat → Nat) : Prop := SC1 z x t B ∧ SCf z B ∧ SCs z B N ∧ SCr z B N ∧ SCp z B N ∧ SCl z B N
def vTim (x m : Nat) (wc wm : Vt) : Prop := vI wc 914 x = vI wm 1001 m ∧ vI wc 915 x = vI wm 1002 m ∧ ∃ d : Nat, d ≤ 9999 ∧ vI wm 1001 m = nI d
def vTap (x m : Nat) (B : Nat → Nat → Nat → Nat) (M : Nat → Nat) (wc wm : Vt) : Prop := vI wc 801 (B 900 0 0) = vI wm 1034 m ∧ vI wc 903 x = vI wm 1038 m ∧ (∃ n : Nat, n ≤ 400 ∧ vI wm 1034 m = nI n) ∧ (∀ i, i < 400 → vA wc 1800 (B 800 0 0) i = vA wm 2033 (M 1033) i &&& 255 ∧ -128 ≤ (vA wm 2033 (M 1033) i).toInt ∧ (vA wm 2033 (M 1033) i).toInt ≤ 127)
def vRig (m : Nat) (B : Nat → Nat → Nat → Nat) (M : Nat → Nat) (wc wm : Vt) : Prop := vI wc 406 (B 901 0 0) = vI wm 1031 m ∧ vI wc 405 (B 901 0 0) = vI wm 1029 m ∧ ∃ n : Nat, n ≤ 14 ∧ vI wm 1029 m = nI n ∧ ∀ i, i < n → vA wc 1400 (B 400 0 0) i = vA wm 2027 (M 1027) (5 * i) ∧ vA wc 1401 (B 401 0 0) i = vA wm 2027 (M 1027) (5 * i + 1) ∧ vA wc 1402 (B 402 0 0) i = vA wm 2027 (M 1027) (5 * i + 2) ∧ vA wc 1403 (B 403 0 0) i = vA wm 2027 (M 1027) (5 * i + 3) ∧ vA wc 1404 (B 404 0 0) i = vA wm 2027 (M 1027) (5 * i + 4)
def vSho (x m : Nat) (B : Nat → Nat → Nat → Nat) (N : Nat → Nat → Nat) (M : Nat → Nat) (wc wm : Vt) : Prop := vI wc 905 x = nI (N 905 0) ∧ vI wm 1014 m = nI (N 905 0) ∧ (∀ i, i < N 905 0 → vI wc 601 (B 1904 i 0) = nI (N 601 i) ∧ vI wc 602 (B 1904 i 0) = vA wm 2013 (M 1013) i ∧ vA wm 2012 (M 1012) i = nI (N 601 i)) ∧ (∀ i, i < 6 → N 905 0 ≤ i → vA wm 2012 (M 1012) i = 0 ∧ vA wm 2013 (M 1013) i = 0)
def vRoc (B : Nat → Nat → Nat → Nat) (N : Nat → Nat → Nat) (M : Nat → Nat) (wc wm : Vt) : Prop := (∀ i r, i < N 905 0 → r < N 601 i → vI wc 500 (B 1600 i r) = vA wm 2003 (M 1003) (4 * i + r) ∧ vI wc 501 (B 1600 i r) = vA wm 2004 (M 1004) (4 * i + r) ∧ vI wc 502 (B 1600 i r) = vA wm 2005 (M 1005) (4 * i + r) ∧ vI wc 503 (B 1600 i r) = vA wm 2007 (M 1007) (4 * i + r) ∧ vI wc 504 (B 1600 i r) = vA wm 2008 (M 1008) (4 * i + r) ∧ vI wc 505 (B 1600 i r) = vA wm 2009 (M 1009) (4 * i + r) ∧ vI wc 506 (B 1600 i r) = vA wm 2006 (M 1006) (4 * i + r) ∧ vI wc 507 (B 1600 i r) = vA wm 2011 (M 1011) (4 * i + r) ∧ (vI wc 508 (B 1600 i r) = vA wm 2010 (M 1010) (4 * i + r) ∨ vA wm 2011 (M 1011) (4 * i + r) = -1) ∧ (vA wm 2006 (M 1006) (4 * i + r) = -1 ∨ ∃ y : Nat, y ≤ 99 ∧ vA wm 2006 (M 1006) (4 * i + r) = nI y)) ∧ (∀ i r, i < 6 → r < 4 → ¬ (i < N 905 0 ∧ r < N 601 i) → vA wm 2008 (M 1008) (4 * i + r) = 0 ∧ vA wm 2009 (M 1009) (4 * i + r) = 0)
def vFam (k : Nat) (B : Nat → Nat → Nat → Nat) (M : Nat → Nat) (wc wm : Vt) : Prop := (∀ i, i < 8 → vI wc 1 (B 1906 i 0) = vA wm 2015 (M 1015) (i) ∧ vI wc 2 (B 1906 i 0) = vA wm 2019 (M 1019) (i) ∧ vI wc 3 (B 1906 i 0) = vA wm 2016 (M 1016) (i) ∧ vI wc 4 (B 1906 i 0) = vA wm 2017 (M 1017) (i) ∧ vI wc 5 (B 1906 i 0) = vA wm 2018 (M 1018) (i) ∧ vI wc 6 (B 1906 i 0) = vA wm 2020 (M 1020) (i) ∧ vI wc 7 (B 1906 i 0) = vA wm 2021 (M 1021) (i) ∧ ∃ v : Nat, v ≤ 1000 * k ∧ vA wm 2016 (M 1016) (i) = nI v) ∧ (∀ i j, i < 8 → j < 600 → vA wc 1000 (B 0 i 0) j = vA wm 2022 (M 1022) (8 * j + i))
def vPit (x m : Nat) (B : Nat → Nat → Nat → Nat) (N : Nat → Nat → Nat) (M : Nat → Nat) (wc wm : Vt) : Prop := vI wc 908 x = nI (N 908 0) ∧ vI wm 1026 m = nI (N 908 0) ∧ (∀ i, i < N 908 0 → vI wc 301 (B 1907 i 0) = vA wm 2024 (M 1024) (i) ∧ vI wc 302 (B 1907 i 0) = vA wm 2025 (M 1025) (i) ∧ vA wm 2023 (M 1023) (i) = nI (N 300 i) ∧ ∃ d : Nat, d ≤ 3 ∧ vA wm 2025 (M 1025) (i) = nI d) ∧ (∀ i, i < 12 → N 908 0 ≤ i → vA wm 2024 (M 1024) (i) = 0 ∧ vA wm 2025 (M 1025) (i) = 0)
def vLot (x m : Nat) (B : Nat → Nat → Nat → Nat) (N : Nat → Nat → Nat) (M : Nat → Nat) (wc wm : Vt) : Prop := vI wc 910 x = nI (N 910 0) ∧ vI wm 1041 m = nI (N 910 0) ∧ (∀ i, i < N 910 0 → vI wc 200 (B 1909 i 0) = vA wm 2040 (M 1040) (6 * i) ∧ vI wc 201 (B 1909 i 0) = vA wm 2040 (M 1040) (6 * i + 1) ∧ vI wc 202 (B 1909 i 0) = vA wm 2040 (M 1040) (6 * i + 2) ∧ vI wc 203 (B 1909 i 0) = vA wm 2040 (M 1040) (6 * i + 3) ∧ vI wc 204 (B 1909 i 0) = vA wm 2040 (M 1040) (6 * i + 5) ∧ isB (vA wm 2040 (M 1040) (6 * i + 3)) ∧ vA wm 2040 (M 1040) (6 * i + 4) = vA wm 2040 (M 1040) (6 * i + 1) * vA wm 2040 (M 1040) (6 * i + 2))
def vSto (m : Nat) (B : Nat → Nat → Nat → Nat) (M : Nat → Nat) (wc wm : Vt) : Prop := vI wc 705 (B 912 0 0) = vI wm 1047 m ∧ ∃ n : Nat, n ≤ 200 ∧ vI wm 1047 m = nI n ∧ ∀ i, i < n → vA wc 1700 (B 700 0 0) i = vA wm 2042 (M 1042) (i) ∧ vA wc 1701 (B 701 0 0) i = vA wm 2043 (M 1043) (i) ∧ vA wc 1702 (B 702 0 0) i = vA wm 2044 (M 1044) (i) ∧ vA wc 1703 (B 703 0 0) i = vA wm 2045 (M 1045) (i) ∧ vA wc 1704 (B 704 0 0) i = vA wm 2046 (M 1046) (i) ∧ (vA wm 2046 (M 1046) (i) = -1 ∨ ∃ d : Nat, d ≤ 9999 ∧ vA wm 2046 (M 1046) (i) = nI d)
def vFor (m : Nat) (B : Nat → Nat → Nat → Nat) (M : Nat → Nat) (wc wm : Vt) : Prop := vI wc 103 (B 913 0 0) = vI wm 1051 m ∧ ∃ n : Nat, n ≤ 16 ∧ vI wm 1051 m = nI n ∧ ∀ i, i < n → vA wc 1100 (B 100 0 0) i = vA wm 2048 (M 1048) (i) ∧ vA wc 1101 (B 101 0 0) i = vA wm 2049 (M 1049) (i) ∧ vA wc 1102 (B 102 0 0) i = vA wm 2050 (M 1050) (i)
def VV (x m k : Nat) (B : Nat → Nat → Nat → Nat) (N : Nat → Nat → Nat) (M : Nat → Nat) (wc wm : Vt) : Prop := vTim x m wc wm ∧ vTap x m B M wc wm ∧ vRig m B M wc wm ∧ vSho x m B N M wc wm ∧ vRoc B N M wc wm ∧ vFam k B M wc wm ∧ vPit x m B N M wc wm ∧ vLot x m B N M wc wm ∧ vSto m B M wc wm ∧ vFor m B M wc wm
def lw_I (x m t k : Nat) (zc : Zt) (wc : Vt) (zm : Zt) (wm : Vt) : Prop := ∃ (B : Nat → Nat → Nat → Nat) (N : Nat → Nat → Nat) (M : Nat → Nat), SC zc x t B N ∧ SM zm m M ∧ VV x m k B N M wc wm
/-- the same values at these components and kinds of rows -/
def frW (cs ks : List Nat) (w w1 : Vt) : Prop := (∀ c ∈ cs, ∀ a, vI w1 c a = vI w c a) ∧ ∀ k ∈ ks, ∀ a i, vA w1 k a i = vA w k a i
theorem vTim.fr {x : Nat} {m : Nat} {wc wm wc1 wm1 : Vt} (h : vTim x m wc wm) (hc : frW [914, 915] [] wc wc1) (hm : frW [1001, 1002] [] wm wm1) : vTim x m wc1 wm1 := by
  have e914 : ∀ a, vI wc1 914 a = vI wc 914 a := fun a => hc.1 914 (by decide) a
  have e915 : ∀ a, vI wc1 915 a = vI wc 915 a := fun a => hc.1 915 (by decide) a
  have e1001 : ∀ a, vI wm1 1001 a = vI wm 1001 a := fun a => hm.1 1001 (by decide) a
  have e1002 : ∀ a, vI wm1 1002 a = vI wm 1002 a := fun a => hm.1 1002 (by decide) a
  unfold vTim at h ⊢
  simp only [e914, e915, e1001, e1002]
  exact h
theorem vTap.fr {x : Nat} {m : Nat} {B : Nat → Nat → Nat → Nat} {M : Nat → Nat} {wc wm wc1 wm1 : Vt} (h : vTap x m B M wc wm) (hc : frW [801, 903] [1800] wc wc1) (hm : frW [1034, 1038] [2033] wm wm1) : vTap x m B M wc1 wm1 := by
  have e801 : ∀ a, vI wc1 801 a = vI wc 801 a := fun a => hc.1 801 (by decide) a
  have e903 : ∀ a, vI wc1 903 a = vI wc 903 a := fun a => hc.1 903 (by decide) a
  have e1800 : ∀ a i, vA wc1 1800 a i = vA wc 1800 a i := fun a i => hc.2 1800 (by decide) a i
  have e1034 : ∀ a, vI wm1 1034 a = vI wm 1034 a := fun a => hm.1 1034 (by decide) a
  have e1038 : ∀ a, vI wm1 1038 a = vI wm 1038 a := fun a => hm.1 1038 (by decide) a
  have e2033 : ∀ a i, vA wm1 2033 a i = vA wm 2033 a i := fun a i => hm.2 2033 (by decide) a i
  unfold vTap at h ⊢
  simp only [e801, e903, e1800, e1034, e1038, e2033]
  exact h
theorem vRig.fr {m : Nat} {B : Nat → Nat → Nat → Nat} {M : Nat → Nat} {wc wm wc1 wm1 : Vt} (h : vRig m B M wc wm) (hc : frW [405, 406] [1400, 1401, 1402, 1403, 1404] wc wc1) (hm : frW [1029, 1031] [2027] wm wm1) : vRig m B M wc1 wm1 := by
  have e405 : ∀ a, vI wc1 405 a = vI wc 405 a := fun a => hc.1 405 (by decide) a
  have e406 : ∀ a, vI wc1 406 a = vI wc 406 a := fun a => hc.1 406 (by decide) a
  have e1400 : ∀ a i, vA wc1 1400 a i = vA wc 1400 a i := fun a i => hc.2 1400 (by decide) a i
  have e1401 : ∀ a i, vA wc1 1401 a i = vA wc 1401 a i := fun a i => hc.2 1401 (by decide) a i
  have e1402 : ∀ a i, vA wc1 1402 a i = vA wc 1402 a i := fun a i => hc.2 1402 (by decide) a i
  have e1403 : ∀ a i, vA wc1 1403 a i = vA wc 1403 a i := fun a i => hc.2 1403 (by decide) a i
  have e1404 : ∀ a i, vA wc1 1404 a i = vA wc 1404 a i := fun a i => hc.2 1404 (by decide) a i
  have e1029 : ∀ a, vI wm1 1029 a = vI wm 1029 a := fun a => hm.1 1029 (by decide) a
  have e1031 : ∀ a, vI wm1 1031 a = vI wm 1031 a := fun a => hm.1 1031 (by decide) a
  have e2027 : ∀ a i, vA wm1 2027 a i = vA wm 2027 a i := fun a i => hm.2 2027 (by decide) a i
  unfold vRig at h ⊢
  simp only [e405, e406, e1400, e1401, e1402, e1403, e1404, e1029, e1031, e2027]
  exact h
theorem vSho.fr {x : Nat} {m : Nat} {B : Nat → Nat → Nat → Nat} {N : Nat → Nat → Nat} {M : Nat → Nat} {wc wm wc1 wm1 : Vt} (h : vSho x m B N M wc wm) (hc : frW [905, 601, 602] [] wc wc1) (hm : frW [1014] [2012, 2013] wm wm1) : vSho x m B N M wc1 wm1 := by
  have e905 : ∀ a, vI wc1 905 a = vI wc 905 a := fun a => hc.1 905 (by decide) a
  have e601 : ∀ a, vI wc1 601 a = vI wc 601 a := fun a => hc.1 601 (by decide) a
  have e602 : ∀ a, vI wc1 602 a = vI wc 602 a := fun a => hc.1 602 (by decide) a
  have e1014 : ∀ a, vI wm1 1014 a = vI wm 1014 a := fun a => hm.1 1014 (by decide) a
  have e2012 : ∀ a i, vA wm1 2012 a i = vA wm 2012 a i := fun a i => hm.2 2012 (by decide) a i
  have e2013 : ∀ a i, vA wm1 2013 a i = vA wm 2013 a i := fun a i => hm.2 2013 (by decide) a i
  unfold vSho at h ⊢
  simp only [e905, e601, e602, e1014, e2012, e2013]
  exact h
theorem vRoc.fr {B : Nat → Nat → Nat → Nat} {N : Nat → Nat → Nat} {M : Nat → Nat} {wc wm wc1 wm1 : Vt} (h : vRoc B N M wc wm) (hc : frW [500, 501, 502, 503, 504, 505, 506, 507, 508] [] wc wc1) (hm : frW [] [2003, 2004, 2005, 2006, 2007, 2008, 2009, 2010, 2011] wm wm1) : vRoc B N M wc1 wm1 := by
  have e500 : ∀ a, vI wc1 500 a = vI wc 500 a := fun a => hc.1 500 (by decide) a
  have e501 : ∀ a, vI wc1 501 a = vI wc 501 a := fun a => hc.1 501 (by decide) a
  have e502 : ∀ a, vI wc1 502 a = vI wc 502 a := fun a => hc.1 502 (by decide) a
  have e503 : ∀ a, vI wc1 503 a = vI wc 503 a := fun a => hc.1 503 (by decide) a
  have e504 : ∀ a, vI wc1 504 a = vI wc 504 a := fun a => hc.1 504 (by decide) a
  have e505 : ∀ a, vI wc1 505 a = vI wc 505 a := fun a => hc.1 505 (by decide) a
  have e506 : ∀ a, vI wc1 506 a = vI wc 506 a := fun a => hc.1 506 (by decide) a
  have e507 : ∀ a, vI wc1 507 a = vI wc 507 a := fun a => hc.1 507 (by decide) a
  have e508 : ∀ a, vI wc1 508 a = vI wc 508 a := fun a => hc.1 508 (by decide) a
  have e2003 : ∀ a i, vA wm1 2003 a i = vA wm 2003 a i := fun a i => hm.2 2003 (by decide) a i
  have e2004 : ∀ a i, vA wm1 2004 a i = vA wm 2004 a i := fun a i => hm.2 2004 (by decide) a i
  have e2005 : ∀ a i, vA wm1 2005 a i = vA wm 2005 a i := fun a i => hm.2 2005 (by decide) a i
  have e2006 : ∀ a i, vA wm1 2006 a i = vA wm 2006 a i := fun a i => hm.2 2006 (by decide) a i
  have e2007 : ∀ a i, vA wm1 2007 a i = vA wm 2007 a i := fun a i => hm.2 2007 (by decide) a i
  have e2008 : ∀ a i, vA wm1 2008 a i = vA wm 2008 a i := fun a i => hm.2 2008 (by decide) a i
  have e2009 : ∀ a i, vA wm1 2009 a i = vA wm 2009 a i := fun a i => hm.2 2009 (by decide) a i
  have e2010 : ∀ a i, vA wm1 2010 a i = vA wm 2010 a i := fun a i => hm.2 2010 (by decide) a i
  have e2011 : ∀ a i, vA wm1 2011 a i = vA wm 2011 a i := fun a i => hm.2 2011 (by decide) a i
  unfold vRoc at h ⊢
  simp only [e500, e501, e502, e503, e504, e505, e506, e507, e508, e2003, e2004, e2005, e2006, e2007, e2008, e2009, e2010, e2011]
  exact h
theorem vFam.fr {k : Nat} {B : Nat → Nat → Nat → Nat} {M : Nat → Nat} {wc wm wc1 wm1 : Vt} (h : vFam k B M wc wm) (hc : frW [1, 2, 3, 4, 5, 6, 7] [1000] wc wc1) (hm : frW [] [2015, 2016, 2017, 2018, 2019, 2020, 2021, 2022] wm wm1) : vFam k B M wc1 wm1 := by
  have e1 : ∀ a, vI wc1 1 a = vI wc 1 a := fun a => hc.1 1 (by decide) a
  have e2 : ∀ a, vI wc1 2 a = vI wc 2 a := fun a => hc.1 2 (by decide) a
  have e3 : ∀ a, vI wc1 3 a = vI wc 3 a := fun a => hc.1 3 (by decide) a
  have e4 : ∀ a, vI wc1 4 a = vI wc 4 a := fun a => hc.1 4 (by decide) a
  have e5 : ∀ a, vI wc1 5 a = vI wc 5 a := fun a => hc.1 5 (by decide) a
  have e6 : ∀ a, vI wc1 6 a = vI wc 6 a := fun a => hc.1 6 (by decide) a
  have e7 : ∀ a, vI wc1 7 a = vI wc 7 a := fun a => hc.1 7 (by decide) a
  have e1000 : ∀ a i, vA wc1 1000 a i = vA wc 1000 a i := fun a i => hc.2 1000 (by decide) a i
  have e2015 : ∀ a i, vA wm1 2015 a i = vA wm 2015 a i := fun a i => hm.2 2015 (by decide) a i
  have e2016 : ∀ a i, vA wm1 2016 a i = vA wm 2016 a i := fun a i => hm.2 2016 (by decide) a i
  have e2017 : ∀ a i, vA wm1 2017 a i = vA wm 2017 a i := fun a i => hm.2 2017 (by decide) a i
  have e2018 : ∀ a i, vA wm1 2018 a i = vA wm 2018 a i := fun a i => hm.2 2018 (by decide) a i
  have e2019 : ∀ a i, vA wm1 2019 a i = vA wm 2019 a i := fun a i => hm.2 2019 (by decide) a i
  have e2020 : ∀ a i, vA wm1 2020 a i = vA wm 2020 a i := fun a i => hm.2 2020 (by decide) a i
  have e2021 : ∀ a i, vA wm1 2021 a i = vA wm 2021 a i := fun a i => hm.2 2021 (by decide) a i
  have e2022 : ∀ a i, vA wm1 2022 a i = vA wm 2022 a i := fun a i => hm.2 2022 (by decide) a i
  unfold vFam at h ⊢
  simp only [e1, e2, e3, e4, e5, e6, e7, e1000, e2015, e2016, e2017, e2018, e2019, e2020, e2021, e2022]
  exact h
theorem vPit.fr {x : Nat} {m : Nat} {B : Nat → Nat → Nat → Nat} {N : Nat → Nat → Nat} {M : Nat → Nat} {wc wm wc1 wm1 : Vt} (h : vPit x m B N M wc wm) (hc : frW [908, 301, 302] [] wc wc1) (hm : frW [1026] [2023, 2024, 2025] wm wm1) : vPit x m B N M wc1 wm1 := by
  have e908 : ∀ a, vI wc1 908 a = vI wc 908 a := fun a => hc.1 908 (by decide) a
  have e301 : ∀ a, vI wc1 301 a = vI wc 301 a := fun a => hc.1 301 (by decide) a
  have e302 : ∀ a, vI wc1 302 a = vI wc 302 a := fun a => hc.1 302 (by decide) a
  have e1026 : ∀ a, vI wm1 1026 a = vI wm 1026 a := fun a => hm.1 1026 (by decide) a
  have e2023 : ∀ a i, vA wm1 2023 a i = vA wm 2023 a i := fun a i => hm.2 2023 (by decide) a i
  have e2024 : ∀ a i, vA wm1 2024 a i = vA wm 2024 a i := fun a i => hm.2 2024 (by decide) a i
  have e2025 : ∀ a i, vA wm1 2025 a i = vA wm 2025 a i := fun a i => hm.2 2025 (by decide) a i
  unfold vPit at h ⊢
  simp only [e908, e301, e302, e1026, e2023, e2024, e2025]
  exact h
theorem vLot.fr {x : Nat} {m : Nat} {B : Nat → Nat → Nat → Nat} {N : Nat → Nat → Nat} {M : Nat → Nat} {wc wm wc1 wm1 : Vt} (h : vLot x m B N M wc wm) (hc : frW [910, 200, 201, 202, 203, 204] [] wc wc1) (hm : frW [1041] [2040] wm wm1) : vLot x m B N M wc1 wm1 := by
  have e910 : ∀ a, vI wc1 910 a = vI wc 910 a := fun a => hc.1 910 (by decide) a
  have e200 : ∀ a, vI wc1 200 a = vI wc 200 a := fun a => hc.1 200 (by decide) a
  have e201 : ∀ a, vI wc1 201 a = vI wc 201 a := fun a => hc.1 201 (by decide) a
  have e202 : ∀ a, vI wc1 202 a = vI wc 202 a := fun a => hc.1 202 (by decide) a
  have e203 : ∀ a, vI wc1 203 a = vI wc 203 a := fun a => hc.1 203 (by decide) a
  have e204 : ∀ a, vI wc1 204 a = vI wc 204 a := fun a => hc.1 204 (by decide) a
  have e1041 : ∀ a, vI wm1 1041 a = vI wm 1041 a := fun a => hm.1 1041 (by decide) a
  have e2040 : ∀ a i, vA wm1 2040 a i = vA wm 2040 a i := fun a i => hm.2 2040 (by decide) a i
  unfold vLot at h ⊢
  simp only [e910, e200, e201, e202, e203, e204, e1041, e2040]
  exact h
theorem vSto.fr {m : Nat} {B : Nat → Nat → Nat → Nat} {M : Nat → Nat} {wc wm wc1 wm1 : Vt} (h : vSto m B M wc wm) (hc : frW [705] [1700, 1701, 1702, 1703, 1704] wc wc1) (hm : frW [1047] [2042, 2043, 2044, 2045, 2046] wm wm1) : vSto m B M wc1 wm1 := by
  have e705 : ∀ a, vI wc1 705 a = vI wc 705 a := fun a => hc.1 705 (by decide) a
  have e1700 : ∀ a i, vA wc1 1700 a i = vA wc 1700 a i := fun a i => hc.2 1700 (by decide) a i
  have e1701 : ∀ a i, vA wc1 1701 a i = vA wc 1701 a i := fun a i => hc.2 1701 (by decide) a i
  have e1702 : ∀ a i, vA wc1 1702 a i = vA wc 1702 a i := fun a i => hc.2 1702 (by decide) a i
  have e1703 : ∀ a i, vA wc1 1703 a i = vA wc 1703 a i := fun a i => hc.2 1703 (by decide) a i
  have e1704 : ∀ a i, vA wc1 1704 a i = vA wc 1704 a i := fun a i => hc.2 1704 (by decide) a i
  have e1047 : ∀ a, vI wm1 1047 a = vI wm 1047 a := fun a => hm.1 1047 (by decide) a
  have e2042 : ∀ a i, vA wm1 2042 a i = vA wm 2042 a i := fun a i => hm.2 2042 (by decide) a i
  have e2043 : ∀ a i, vA wm1 2043 a i = vA wm 2043 a i := fun a i => hm.2 2043 (by decide) a i
  have e2044 : ∀ a i, vA wm1 2044 a i = vA wm 2044 a i := fun a i => hm.2 2044 (by decide) a i
  have e2045 : ∀ a i, vA wm1 2045 a i = vA wm 2045 a i := fun a i => hm.2 2045 (by decide) a i
  have e2046 : ∀ a i, vA wm1 2046 a i = vA wm 2046 a i := fun a i => hm.2 2046 (by decide) a i
  unfold vSto at h ⊢
  simp only [e705, e1700, e1701, e1702, e1703, e1704, e1047, e2042, e2043, e2044, e2045, e2046]
  exact h
theorem vFor.fr {m : Nat} {B : Nat → Nat → Nat → Nat} {M : Nat → Nat} {wc wm wc1 wm1 : Vt} (h : vFor m B M wc wm) (hc : frW [103] [1100, 1101, 1102] wc wc1) (hm : frW [1051] [2048, 2049, 2050] wm wm1) : vFor m B M wc1 wm1 := by
  have e103 : ∀ a, vI wc1 103 a = vI wc 103 a := fun a => hc.1 103 (by decide) a
  have e1100 : ∀ a i, vA wc1 1100 a i = vA wc 1100 a i := fun a i => hc.2 1100 (by decide) a i
  have e1101 : ∀ a i, vA wc1 1101 a i = vA wc 1101 a i := fun a i => hc.2 1101 (by decide) a i
  have e1102 : ∀ a i, vA wc1 1102 a i = vA wc 1102 a i := fun a i => hc.2 1102 (by decide) a i
  have e1051 : ∀ a, vI wm1 1051 a = vI wm 1051 a := fun a => hm.1 1051 (by decide) a
  have e2048 : ∀ a i, vA wm1 2048 a i = vA wm 2048 a i := fun a i => hm.2 2048 (by decide) a i
  have e2049 : ∀ a i, vA wm1 2049 a i = vA wm 2049 a i := fun a i => hm.2 2049 (by decide) a i
  have e2050 : ∀ a i, vA wm1 2050 a i = vA wm 2050 a i := fun a i => hm.2 2050 (by decide) a i
  unfold vFor at h ⊢
  simp only [e103, e1100, e1101, e1102, e1051, e2048, e2049, e2050]
  exact h
