/-! PURE PART: what the relation gives, frames, the 'need' methods -/
theorem sm_m {z : Zt} {m : Nat} {M : Nat → Nat} (h : SM z m M) : isO z 10 m := h.1
theorem sm_1003 {z : Zt} {m : Nat} {M : Nat → Nat} (h : SM z m M) : zR z 1003 m = some (M 1003) ∧ isO z 2003 (M 1003) := ⟨h.2.1, h.2.2.1⟩
theorem sm_1004 {z : Zt} {m : Nat} {M : Nat → Nat} (h : SM z m M) : zR z 1004 m = some (M 1004) ∧ isO z 2004 (M 1004) := ⟨h.2.2.2.1, h.2.2.2.2.1⟩
theorem sm_1005 {z : Zt} {m : Nat} {M : Nat → Nat} (h : SM z m M) : zR z 1005 m = some (M 1005) ∧ isO z 2005 (M 1005) := ⟨h.2.2.2.2.2.1, h.2.2.2.2.2.2.1⟩
theorem sm_1006 {z : Zt} {m : Nat} {M : Nat → Nat} (h : SM z m M) : zR z 1006 m = some (M 1006) ∧ isO z 2006 (M 1006) := ⟨h.2.2.2.2.2.2.2.1, h.2.2.2.2.2.2.2.2.1⟩
theorem sm_1007 {z : Zt} {m : Nat} {M : Nat → Nat} (h : SM z m M) : zR z 1007 m = some (M 1007) ∧ isO z 2007 (M 1007) := ⟨h.2.2.2.2.2.2.2.2.2.1, h.2.2.2.2.2.2.2.2.2.2.1⟩
theorem sm_1008 {z : Zt} {m : Nat} {M : Nat → Nat} (h : SM z m M) : zR z 1008 m = some (M 1008) ∧ isO z 2008 (M 1008) := ⟨h.2.2.2.2.2.2.2.2.2.2.2.1, h.2.2.2.2.2.2.2.2.2.2.2.2.1⟩
theorem sm_1009 {z : Zt} {m : Nat} {M : Nat → Nat} (h : SM z m M) : zR z 1009 m = some (M 1009) ∧ isO z 2009 (M 1009) := ⟨h.2.2.2.2.2.2.2.2.2.2.2.2.2.1, h.2.2.2.2.2.2.2.2.2.2.2.2.2.2.1⟩
theorem sm_1010 {z : Zt} {m : Nat} {M : Nat → Nat} (h : SM z m M) : zR z 1010 m = some (M 1010) ∧ isO z 2010 (M 1010) := ⟨h.2.2.2.2.2.2.2.2.2.2.2.2.2.2.2.1, h.2.2.2.2.2.2.2.2.2.2.2.2.2.2.2.2.1⟩
theorem sm_1011 {z : Zt} {m : Nat} {M : Nat → Nat} (h : SM z m M) : zR z 1011 m = some (M 1011) ∧ isO z 2011 (M 1011) := ⟨h.2.2.2.2.2.2.2.2.2.2.2.2.2.2.2.2.2.1, h.2.2.2.2.2.2.2.2.2.2.2.2.2.2.2.2.2.2.1⟩
theorem sm_1012 {z : Zt} {m : Nat} {M : Nat → Nat} (h : SM z m M) : zR z 1012 m = some (M 1012) ∧ isO z 2012 (M 1012) := ⟨h.2.2.2.2.2.2.2.2.2.2.2.2.2.2.2.2.2.2.2.1, h.2.2.2.2.2.2.2.2.2.2.2.2.2.2.2.2.2.2.2.2.1⟩
theorem sm_1013 {z : Zt} {m : Nat} {M : Nat → Nat} (h : SM z m M) : zR z 1013 m = some (M 1013) ∧ isO z 2013 (M 1013) := ⟨h.2.2.2.2.2.2.2.2.2.2.2.2.2.2.2.2.2.2.2.2.2.1, h.2.2.2.2.2.2.2.2.2.2.2.2.2.2.2.2.2.2.2.2.2.2.1⟩
theorem sm_1015 {z : Zt} {m : Nat} {M : Nat → Nat} (h : SM z m M) : zR z 1015 m = some (M 1015) ∧ isO z 2015 (M 1015) := ⟨h.2.2.2.2.2.2.2.2.2.2.2.2.2.2.2.2.2.2.2.2.2.2.2.1, h.2.2.2.2.2.2.2.2.2.2.2.2.2.2.2.2.2.2.2.2.2.2.2.2.1⟩
theorem sm_1016 {z : Zt} {m : Nat} {M : Nat → Nat} (h : SM z m M) : zR z 1016 m = some (M 1016) ∧ isO z 2016 (M 1016) := ⟨h.2.2.2.2.2.2.2.2.2.2.2.2.2.2.2.2.2.2.2.2.2.2.2.2.2.1, h.2.2.2.2.2.2.2.2.2.2.2.2.2.2.2.2.2.2.2.2.2.2.2.2.2.2.1⟩
theorem sm_1017 {z : Zt} {m : Nat} {M : Nat → Nat} (h : SM z m M) : zR z 1017 m = some (M 1017) ∧ isO z 2017 (M 1017) := ⟨h.2.2.2.2.2.2.2.2.2.2.2.2.2.2.2.2.2.2.2.2.2.2.2.2.2.2.2.1, h.2.2.2.2.2.2.2.2.2.2.2.2.2.2.2.2.2.2.2.2.2.2.2.2.2.2.2.2.1⟩
theorem sm_1018 {z : Zt} {m : Nat} {M : Nat → Nat} (h : SM z m M) : zR z 1018 m = some (M 1018) ∧ isO z 2018 (M 1018) := ⟨h.2.2.2.2.2.2.2.2.2.2.2.2.2.2.2.2.2.2.2.2.2.2.2.2.2.2.2.2.2.1, h.2.2.2.2.2.2.2.2.2.2.2.2.2.2.2.2.2.2.2.2.2.2.2.2.2.2.2.2.2.2.1⟩
theorem sm_1019 {z : Zt} {m : Nat} {M : Nat → Nat} (h : SM z m M) : zR z 1019 m = some (M 1019) ∧ isO z 2019 (M 1019) := ⟨h.2.2.2.2.2.2.2.2.2.2.2.2.2.2.2.2.2.2.2.2.2.2.2.2.2.2.2.2.2.2.2.1, h.2.2.2.2.2.2.2.2.2.2.2.2.2.2.2.2.2.2.2.2.2.2.2.2.2.2.2.2.2.2.2.2.1⟩
theorem sm_1020 {z : Zt} {m : Nat} {M : Nat → Nat} (h : SM z m M) : zR z 1020 m = some (M 1020) ∧ isO z 2020 (M 1020) := ⟨h.2.2.2.2.2.2.2.2.2.2.2.2.2.2.2.2.2.2.2.2.2.2.2.2.2.2.2.2.2.2.2.2.2.1, h.2.2.2.2.2.2.2.2.2.2.2.2.2.2.2.2.2.2.2.2.2.2.2.2.2.2.2.2.2.2.2.2.2.2.1⟩
theorem sm_1021 {z : Zt} {m : Nat} {M : Nat → Nat} (h : SM z m M) : zR z 1021 m = some (M 1021) ∧ isO z 2021 (M 1021) := ⟨h.2.2.2.2.2.2.2.2.2.2.2.2.2.2.2.2.2.2.2.2.2.2.2.2.2.2.2.2.2.2.2.2.2.2.2.1, h.2.2.2.2.2.2.2.2.2.2.2.2.2.2.2.2.2.2.2.2.2.2.2.2.2.2.2.2.2.2.2.2.2.2.2.2.1⟩
theorem sm_1022 {z : Zt} {m : Nat} {M : Nat → Nat} (h : SM z m M) : zR z 1022 m = some (M 1022) ∧ isO z 2022 (M 1022) := ⟨h.2.2.2.2.2.2.2.2.2.2.2.2.2.2.2.2.2.2.2.2.2.2.2.2.2.2.2.2.2.2.2.2.2.2.2.2.2.1, h.2.2.2.2.2.2.2.2.2.2.2.2.2.2.2.2.2.2.2.2.2.2.2.2.2.2.2.2.2.2.2.2.2.2.2.2.2.2.1⟩
theorem sm_1023 {z : Zt} {m : Nat} {M : Nat → Nat} (h : SM z m M) : zR z 1023 m = some (M 1023) ∧ isO z 2023 (M 1023) := ⟨h.2.2.2.2.2.2.2.2.2.2.2.2.2.2.2.2.2.2.2.2.2.2.2.2.2.2.2.2.2.2.2.2.2.2.2.2.2.2.2.1, h.2.2.2.2.2.2.2.2.2.2.2.2.2.2.2.2.2.2.2.2.2.2.2.2.2.2.2.2.2.2.2.2.2.2.2.2.2.2.2.2.1⟩
theorem sm_1024 {z : Zt} {m : Nat} {M : Nat → Nat} (h : SM z m M) : zR z 1024 m = some (M 1024) ∧ isO z 2024 (M 1024) := ⟨h.2.2.2.2.2.2.2.2.2.2.2.2.2.2.2.2.2.2.2.2.2.2.2.2.2.2.2.2.2.2.2.2.2.2.2.2.2.2.2.2.2.1, h.2.2.2.2.2.2.2.2.2.2.2.2.2.2.2.2.2.2.2.2.2.2.2.2.2.2.2.2.2.2.2.2.2.2.2.2.2.2.2.2.2.2.1⟩
theorem sm_1025 {z : Zt} {m : Nat} {M : Nat → Nat} (h : SM z m M) : zR z 1025 m = some (M 1025) ∧ isO z 2025 (M 1025) := ⟨h.2.2.2.2.2.2.2.2.2.2.2.2.2.2.2.2.2.2.2.2.2.2.2.2.2.2.2.2.2.2.2.2.2.2.2.2.2.2.2.2.2.2.2.1, h.2.2.2.2.2.2.2.2.2.2.2.2.2.2.2.2.2.2.2.2.2.2.2.2.2.2.2.2.2.2.2.2.2.2.2.2.2.2.2.2.2.2.2.2.1⟩
theorem sm_1027 {z : Zt} {m : Nat} {M : Nat → Nat} (h : SM z m M) : zR z 1027 m = some (M 1027) ∧ isO z 2027 (M 1027) := ⟨h.2.2.2.2.2.2.2.2.2.2.2.2.2.2.2.2.2.2.2.2.2.2.2.2.2.2.2.2.2.2.2.2.2.2.2.2.2.2.2.2.2.2.2.2.2.1, h.2.2.2.2.2.2.2.2.2.2.2.2.2.2.2.2.2.2.2.2.2.2.2.2.2.2.2.2.2.2.2.2.2.2.2.2.2.2.2.2.2.2.2.2.2.2.1⟩
theorem sm_1028 {z : Zt} {m : Nat} {M : Nat → Nat} (h : SM z m M) : zR z 1028 m = some (M 1028) ∧ isO z 2028 (M 1028) := ⟨h.2.2.2.2.2.2.2.2.2.2.2.2.2.2.2.2.2.2.2.2.2.2.2.2.2.2.2.2.2.2.2.2.2.2.2.2.2.2.2.2.2.2.2.2.2.2.2.1, h.2.2.2.2.2.2.2.2.2.2.2.2.2.2.2.2.2.2.2.2.2.2.2.2.2.2.2.2.2.2.2.2.2.2.2.2.2.2.2.2.2.2.2.2.2.2.2.2.1⟩
theorem sm_1033 {z : Zt} {m : Nat} {M : Nat → Nat} (h : SM z m M) : zR z 1033 m = some (M 1033) ∧ isO z 2033 (M 1033) := ⟨h.2.2.2.2.2.2.2.2.2.2.2.2.2.2.2.2.2.2.2.2.2.2.2.2.2.2.2.2.2.2.2.2.2.2.2.2.2.2.2.2.2.2.2.2.2.2.2.2.2.1, h.2.2.2.2.2.2.2.2.2.2.2.2.2.2.2.2.2.2.2.2.2.2.2.2.2.2.2.2.2.2.2.2.2.2.2.2.2.2.2.2.2.2.2.2.2.2.2.2.2.2.1⟩
theorem sm_1039 {z : Zt} {m : Nat} {M : Nat → Nat} (h : SM z m M) : zR z 1039 m = some (M 1039) ∧ isO z 2039 (M 1039) := ⟨h.2.2.2.2.2.2.2.2.2.2.2.2.2.2.2.2.2.2.2.2.2.2.2.2.2.2.2.2.2.2.2.2.2.2.2.2.2.2.2.2.2.2.2.2.2.2.2.2.2.2.2.1, h.2.2.2.2.2.2.2.2.2.2.2.2.2.2.2.2.2.2.2.2.2.2.2.2.2.2.2.2.2.2.2.2.2.2.2.2.2.2.2.2.2.2.2.2.2.2.2.2.2.2.2.2.1⟩
theorem sm_1040 {z : Zt} {m : Nat} {M : Nat → Nat} (h : SM z m M) : zR z 1040 m = some (M 1040) ∧ isO z 2040 (M 1040) := ⟨h.2.2.2.2.2.2.2.2.2.2.2.2.2.2.2.2.2.2.2.2.2.2.2.2.2.2.2.2.2.2.2.2.2.2.2.2.2.2.2.2.2.2.2.2.2.2.2.2.2.2.2.2.2.1, h.2.2.2.2.2.2.2.2.2.2.2.2.2.2.2.2.2.2.2.2.2.2.2.2.2.2.2.2.2.2.2.2.2.2.2.2.2.2.2.2.2.2.2.2.2.2.2.2.2.2.2.2.2.2.1⟩
theorem sm_1042 {z : Zt} {m : Nat} {M : Nat → Nat} (h : SM z m M) : zR z 1042 m = some (M 1042) ∧ isO z 2042 (M 1042) := ⟨h.2.2.2.2.2.2.2.2.2.2.2.2.2.2.2.2.2.2.2.2.2.2.2.2.2.2.2.2.2.2.2.2.2.2.2.2.2.2.2.2.2.2.2.2.2.2.2.2.2.2.2.2.2.2.2.1, h.2.2.2.2.2.2.2.2.2.2.2.2.2.2.2.2.2.2.2.2.2.2.2.2.2.2.2.2.2.2.2.2.2.2.2.2.2.2.2.2.2.2.2.2.2.2.2.2.2.2.2.2.2.2.2.2.1⟩
theorem sm_1043 {z : Zt} {m : Nat} {M : Nat → Nat} (h : SM z m M) : zR z 1043 m = some (M 1043) ∧ isO z 2043 (M 1043) := ⟨h.2.2.2.2.2.2.2.2.2.2.2.2.2.2.2.2.2.2.2.2.2.2.2.2.2.2.2.2.2.2.2.2.2.2.2.2.2.2.2.2.2.2.2.2.2.2.2.2.2.2.2.2.2.2.2.2.2.1, h.2.2.2.2.2.2.2.2.2.2.2.2.2.2.2.2.2.2.2.2.2.2.2.2.2.2.2.2.2.2.2.2.2.2.2.2.2.2.2.2.2.2.2.2.2.2.2.2.2.2.2.2.2.2.2.2.2.2.1⟩
theorem sm_1044 {z : Zt} {m : Nat} {M : Nat → Nat} (h : SM z m M) : zR z 1044 m = some (M 1044) ∧ isO z 2044 (M 1044) := ⟨h.2.2.2.2.2.2.2.2.2.2.2.2.2.2.2.2.2.2.2.2.2.2.2.2.2.2.2.2.2.2.2.2.2.2.2.2.2.2.2.2.2.2.2.2.2.2.2.2.2.2.2.2.2.2.2.2.2.2.2.1, h.2.2.2.2.2.2.2.2.2.2.2.2.2.2.2.2.2.2.2.2.2.2.2.2.2.2.2.2.2.2.2.2.2.2.2.2.2.2.2.2.2.2.2.2.2.2.2.2.2.2.2.2.2.2.2.2.2.2.2.2.1⟩
theorem sm_1045 {z : Zt} {m : Nat} {M : Nat → Nat} (h : SM z m M) : zR z 1045 m = some (M 1045) ∧ isO z 2045 (M 1045) := ⟨h.2.2.2.2.2.2.2.2.2.2.2.2.2.2.2.2.2.2.2.2.2.2.2.2.2.2.2.2.2.2.2.2.2.2.2.2.2.2.2.2.2.2.2.2.2.2.2.2.2.2.2.2.2.2.2.2.2.2.2.2.2.1, h.2.2.2.2.2.2.2.2.2.2.2.2.2.2.2.2.2.2.2.2.2.2.2.2.2.2.2.2.2.2.2.2.2.2.2.2.2.2.2.2.2.2.2.2.2.2.2.2.2.2.2.2.2.2.2.2.2.2.2.2.2.2.1⟩
theorem sm_1046 {z : Zt} {m : Nat} {M : Nat → Nat} (h : SM z m M) : zR z 1046 m = some (M 1046) ∧ isO z 2046 (M 1046) := ⟨h.2.2.2.2.2.2.2.2.2.2.2.2.2.2.2.2.2.2.2.2.2.2.2.2.2.2.2.2.2.2.2.2.2.2.2.2.2.2.2.2.2.2.2.2.2.2.2.2.2.2.2.2.2.2.2.2.2.2.2.2.2.2.2.1, h.2.2.2.2.2.2.2.2.2.2.2.2.2.2.2.2.2.2.2.2.2.2.2.2.2.2.2.2.2.2.2.2.2.2.2.2.2.2.2.2.2.2.2.2.2.2.2.2.2.2.2.2.2.2.2.2.2.2.2.2.2.2.2.2.1⟩
theorem sm_1048 {z : Zt} {m : Nat} {M : Nat → Nat} (h : SM z m M) : zR z 1048 m = some (M 1048) ∧ isO z 2048 (M 1048) := ⟨h.2.2.2.2.2.2.2.2.2.2.2.2.2.2.2.2.2.2.2.2.2.2.2.2.2.2.2.2.2.2.2.2.2.2.2.2.2.2.2.2.2.2.2.2.2.2.2.2.2.2.2.2.2.2.2.2.2.2.2.2.2.2.2.2.2.1, h.2.2.2.2.2.2.2.2.2.2.2.2.2.2.2.2.2.2.2.2.2.2.2.2.2.2.2.2.2.2.2.2.2.2.2.2.2.2.2.2.2.2.2.2.2.2.2.2.2.2.2.2.2.2.2.2.2.2.2.2.2.2.2.2.2.2.1⟩
theorem sm_1049 {z : Zt} {m : Nat} {M : Nat → Nat} (h : SM z m M) : zR z 1049 m = some (M 1049) ∧ isO z 2049 (M 1049) := ⟨h.2.2.2.2.2.2.2.2.2.2.2.2.2.2.2.2.2.2.2.2.2.2.2.2.2.2.2.2.2.2.2.2.2.2.2.2.2.2.2.2.2.2.2.2.2.2.2.2.2.2.2.2.2.2.2.2.2.2.2.2.2.2.2.2.2.2.2.1, h.2.2.2.2.2.2.2.2.2.2.2.2.2.2.2.2.2.2.2.2.2.2.2.2.2.2.2.2.2.2.2.2.2.2.2.2.2.2.2.2.2.2.2.2.2.2.2.2.2.2.2.2.2.2.2.2.2.2.2.2.2.2.2.2.2.2.2.2.1⟩
theorem sm_1050 {z : Zt} {m : Nat} {M : Nat → Nat} (h : SM z m M) : zR z 1050 m = some (M 1050) ∧ isO z 2050 (M 1050) := ⟨h.2.2.2.2.2.2.2.2.2.2.2.2.2.2.2.2.2.2.2.2.2.2.2.2.2.2.2.2.2.2.2.2.2.2.2.2.2.2.2.2.2.2.2.2.2.2.2.2.2.2.2.2.2.2.2.2.2.2.2.2.2.2.2.2.2.2.2.2.2.1, h.2.2.2.2.2.2.2.2.2.2.2.2.2.2.2.2.2.2.2.2.2.2.2.2.2.2.2.2.2.2.2.2.2.2.2.2.2.2.2.2.2.2.2.2.2.2.2.2.2.2.2.2.2.2.2.2.2.2.2.2.2.2.2.2.2.2.2.2.2.2.1⟩
theorem sm_1052 {z : Zt} {m : Nat} {M : Nat → Nat} (h : SM z m M) : zR z 1052 m = some (M 1052) ∧ isO z 2052 (M 1052) := ⟨h.2.2.2.2.2.2.2.2.2.2.2.2.2.2.2.2.2.2.2.2.2.2.2.2.2.2.2.2.2.2.2.2.2.2.2.2.2.2.2.2.2.2.2.2.2.2.2.2.2.2.2.2.2.2.2.2.2.2.2.2.2.2.2.2.2.2.2.2.2.2.2.1, h.2.2.2.2.2.2.2.2.2.2.2.2.2.2.2.2.2.2.2.2.2.2.2.2.2.2.2.2.2.2.2.2.2.2.2.2.2.2.2.2.2.2.2.2.2.2.2.2.2.2.2.2.2.2.2.2.2.2.2.2.2.2.2.2.2.2.2.2.2.2.2.2⟩
theorem sc_x {z : Zt} {x t : Nat} {B : Nat → Nat → Nat → Nat} {N : Nat → Nat → Nat} (h : SC z x t B N) : isO z 9 x := h.1.1
theorem sc_t {z : Zt} {x t : Nat} {B : Nat → Nat → Nat → Nat} {N : Nat → Nat → Nat} (h : SC z x t B N) : isO z 3000 t := h.1.2.1
theorem sc_900 {z : Zt} {x t : Nat} {B : Nat → Nat → Nat → Nat} {N : Nat → Nat → Nat} (h : SC z x t B N) : zR z 900 x = some (B 900 0 0) ∧ isO z 8 (B 900 0 0) := ⟨h.1.2.2.1, h.1.2.2.2.1⟩
theorem sc_901 {z : Zt} {x t : Nat} {B : Nat → Nat → Nat → Nat} {N : Nat → Nat → Nat} (h : SC z x t B N) : zR z 901 x = some (B 901 0 0) ∧ isO z 4 (B 901 0 0) := ⟨h.1.2.2.2.2.1, h.1.2.2.2.2.2.1⟩
theorem sc_902 {z : Zt} {x t : Nat} {B : Nat → Nat → Nat → Nat} {N : Nat → Nat → Nat} (h : SC z x t B N) : zR z 902 x = some (B 902 0 0) ∧ isO z 4 (B 902 0 0) := ⟨h.1.2.2.2.2.2.2.1, h.1.2.2.2.2.2.2.2.1⟩
theorem sc_904 {z : Zt} {x t : Nat} {B : Nat → Nat → Nat → Nat} {N : Nat → Nat → Nat} (h : SC z x t B N) : zR z 904 x = some (B 904 0 0) ∧ isO z 1904 (B 904 0 0) := ⟨h.1.2.2.2.2.2.2.2.2.1, h.1.2.2.2.2.2.2.2.2.2.1⟩
theorem sc_906 {z : Zt} {x t : Nat} {B : Nat → Nat → Nat → Nat} {N : Nat → Nat → Nat} (h : SC z x t B N) : zR z 906 x = some (B 906 0 0) ∧ isO z 1906 (B 906 0 0) := ⟨h.1.2.2.2.2.2.2.2.2.2.2.1, h.1.2.2.2.2.2.2.2.2.2.2.2.1⟩
theorem sc_907 {z : Zt} {x t : Nat} {B : Nat → Nat → Nat → Nat} {N : Nat → Nat → Nat} (h : SC z x t B N) : zR z 907 x = some (B 907 0 0) ∧ isO z 1907 (B 907 0 0) := ⟨h.1.2.2.2.2.2.2.2.2.2.2.2.2.1, h.1.2.2.2.2.2.2.2.2.2.2.2.2.2.1⟩
theorem sc_909 {z : Zt} {x t : Nat} {B : Nat → Nat → Nat → Nat} {N : Nat → Nat → Nat} (h : SC z x t B N) : zR z 909 x = some (B 909 0 0) ∧ isO z 1909 (B 909 0 0) := ⟨h.1.2.2.2.2.2.2.2.2.2.2.2.2.2.2.1, h.1.2.2.2.2.2.2.2.2.2.2.2.2.2.2.2.1⟩
theorem sc_911 {z : Zt} {x t : Nat} {B : Nat → Nat → Nat → Nat} {N : Nat → Nat → Nat} (h : SC z x t B N) : zR z 911 x = some (B 911 0 0) ∧ isO z 1911 (B 911 0 0) := ⟨h.1.2.2.2.2.2.2.2.2.2.2.2.2.2.2.2.2.1, h.1.2.2.2.2.2.2.2.2.2.2.2.2.2.2.2.2.2.1⟩
theorem sc_912 {z : Zt} {x t : Nat} {B : Nat → Nat → Nat → Nat} {N : Nat → Nat → Nat} (h : SC z x t B N) : zR z 912 x = some (B 912 0 0) ∧ isO z 7 (B 912 0 0) := ⟨h.1.2.2.2.2.2.2.2.2.2.2.2.2.2.2.2.2.2.2.1, h.1.2.2.2.2.2.2.2.2.2.2.2.2.2.2.2.2.2.2.2.1⟩
theorem sc_913 {z : Zt} {x t : Nat} {B : Nat → Nat → Nat → Nat} {N : Nat → Nat → Nat} (h : SC z x t B N) : zR z 913 x = some (B 913 0 0) ∧ isO z 1 (B 913 0 0) := ⟨h.1.2.2.2.2.2.2.2.2.2.2.2.2.2.2.2.2.2.2.2.2.1, h.1.2.2.2.2.2.2.2.2.2.2.2.2.2.2.2.2.2.2.2.2.2.1⟩
theorem sc_800 {z : Zt} {x t : Nat} {B : Nat → Nat → Nat → Nat} {N : Nat → Nat → Nat} (h : SC z x t B N) : zR z 800 (B 900 0 0) = some (B 800 0 0) ∧ isO z 1800 (B 800 0 0) := ⟨h.1.2.2.2.2.2.2.2.2.2.2.2.2.2.2.2.2.2.2.2.2.2.2.1, h.1.2.2.2.2.2.2.2.2.2.2.2.2.2.2.2.2.2.2.2.2.2.2.2.1⟩
theorem sc_700 {z : Zt} {x t : Nat} {B : Nat → Nat → Nat → Nat} {N : Nat → Nat → Nat} (h : SC z x t B N) : zR z 700 (B 912 0 0) = some (B 700 0 0) ∧ isO z 1700 (B 700 0 0) := ⟨h.1.2.2.2.2.2.2.2.2.2.2.2.2.2.2.2.2.2.2.2.2.2.2.2.2.1, h.1.2.2.2.2.2.2.2.2.2.2.2.2.2.2.2.2.2.2.2.2.2.2.2.2.2.1⟩
theorem sc_701 {z : Zt} {x t : Nat} {B : Nat → Nat → Nat → Nat} {N : Nat → Nat → Nat} (h : SC z x t B N) : zR z 701 (B 912 0 0) = some (B 701 0 0) ∧ isO z 1701 (B 701 0 0) := ⟨h.1.2.2.2.2.2.2.2.2.2.2.2.2.2.2.2.2.2.2.2.2.2.2.2.2.2.2.1, h.1.2.2.2.2.2.2.2.2.2.2.2.2.2.2.2.2.2.2.2.2.2.2.2.2.2.2.2.1⟩
theorem sc_702 {z : Zt} {x t : Nat} {B : Nat → Nat → Nat → Nat} {N : Nat → Nat → Nat} (h : SC z x t B N) : zR z 702 (B 912 0 0) = some (B 702 0 0) ∧ isO z 1702 (B 702 0 0) := ⟨h.1.2.2.2.2.2.2.2.2.2.2.2.2.2.2.2.2.2.2.2.2.2.2.2.2.2.2.2.2.1, h.1.2.2.2.2.2.2.2.2.2.2.2.2.2.2.2.2.2.2.2.2.2.2.2.2.2.2.2.2.2.1⟩
theorem sc_703 {z : Zt} {x t : Nat} {B : Nat → Nat → Nat → Nat} {N : Nat → Nat → Nat} (h : SC z x t B N) : zR z 703 (B 912 0 0) = some (B 703 0 0) ∧ isO z 1703 (B 703 0 0) := ⟨h.1.2.2.2.2.2.2.2.2.2.2.2.2.2.2.2.2.2.2.2.2.2.2.2.2.2.2.2.2.2.2.1, h.1.2.2.2.2.2.2.2.2.2.2.2.2.2.2.2.2.2.2.2.2.2.2.2.2.2.2.2.2.2.2.2.1⟩
theorem sc_704 {z : Zt} {x t : Nat} {B : Nat → Nat → Nat → Nat} {N : Nat → Nat → Nat} (h : SC z x t B N) : zR z 704 (B 912 0 0) = some (B 704 0 0) ∧ isO z 1704 (B 704 0 0) := ⟨h.1.2.2.2.2.2.2.2.2.2.2.2.2.2.2.2.2.2.2.2.2.2.2.2.2.2.2.2.2.2.2.2.2.1, h.1.2.2.2.2.2.2.2.2.2.2.2.2.2.2.2.2.2.2.2.2.2.2.2.2.2.2.2.2.2.2.2.2.2.1⟩
theorem sc_100 {z : Zt} {x t : Nat} {B : Nat → Nat → Nat → Nat} {N : Nat → Nat → Nat} (h : SC z x t B N) : zR z 100 (B 913 0 0) = some (B 100 0 0) ∧ isO z 1100 (B 100 0 0) := ⟨h.1.2.2.2.2.2.2.2.2.2.2.2.2.2.2.2.2.2.2.2.2.2.2.2.2.2.2.2.2.2.2.2.2.2.2.1, h.1.2.2.2.2.2.2.2.2.2.2.2.2.2.2.2.2.2.2.2.2.2.2.2.2.2.2.2.2.2.2.2.2.2.2.2.1⟩
theorem sc_101 {z : Zt} {x t : Nat} {B : Nat → Nat → Nat → Nat} {N : Nat → Nat → Nat} (h : SC z x t B N) : zR z 101 (B 913 0 0) = some (B 101 0 0) ∧ isO z 1101 (B 101 0 0) := ⟨h.1.2.2.2.2.2.2.2.2.2.2.2.2.2.2.2.2.2.2.2.2.2.2.2.2.2.2.2.2.2.2.2.2.2.2.2.2.1, h.1.2.2.2.2.2.2.2.2.2.2.2.2.2.2.2.2.2.2.2.2.2.2.2.2.2.2.2.2.2.2.2.2.2.2.2.2.2.1⟩
theorem sc_102 {z : Zt} {x t : Nat} {B : Nat → Nat → Nat → Nat} {N : Nat → Nat → Nat} (h : SC z x t B N) : zR z 102 (B 913 0 0) = some (B 102 0 0) ∧ isO z 1102 (B 102 0 0) := ⟨h.1.2.2.2.2.2.2.2.2.2.2.2.2.2.2.2.2.2.2.2.2.2.2.2.2.2.2.2.2.2.2.2.2.2.2.2.2.2.2.1, h.1.2.2.2.2.2.2.2.2.2.2.2.2.2.2.2.2.2.2.2.2.2.2.2.2.2.2.2.2.2.2.2.2.2.2.2.2.2.2.2.1⟩
theorem sc_104 {z : Zt} {x t : Nat} {B : Nat → Nat → Nat → Nat} {N : Nat → Nat → Nat} (h : SC z x t B N) : zR z 104 (B 913 0 0) = some (B 104 0 0) ∧ isO z 1104 (B 104 0 0) := ⟨h.1.2.2.2.2.2.2.2.2.2.2.2.2.2.2.2.2.2.2.2.2.2.2.2.2.2.2.2.2.2.2.2.2.2.2.2.2.2.2.2.2.1, h.1.2.2.2.2.2.2.2.2.2.2.2.2.2.2.2.2.2.2.2.2.2.2.2.2.2.2.2.2.2.2.2.2.2.2.2.2.2.2.2.2.2.1⟩
theorem sc_105 {z : Zt} {x t : Nat} {B : Nat → Nat → Nat → Nat} {N : Nat → Nat → Nat} (h : SC z x t B N) : zR z 105 (B 913 0 0) = some (B 105 0 0) ∧ isO z 1105 (B 105 0 0) := ⟨h.1.2.2.2.2.2.2.2.2.2.2.2.2.2.2.2.2.2.2.2.2.2.2.2.2.2.2.2.2.2.2.2.2.2.2.2.2.2.2.2.2.2.2.1, h.1.2.2.2.2.2.2.2.2.2.2.2.2.2.2.2.2.2.2.2.2.2.2.2.2.2.2.2.2.2.2.2.2.2.2.2.2.2.2.2.2.2.2.2.1⟩
theorem sc_400 {z : Zt} {x t : Nat} {B : Nat → Nat → Nat → Nat} {N : Nat → Nat → Nat} (h : SC z x t B N) : zR z 400 (B 901 0 0) = some (B 400 0 0) ∧ isO z 1400 (B 400 0 0) := ⟨h.1.2.2.2.2.2.2.2.2.2.2.2.2.2.2.2.2.2.2.2.2.2.2.2.2.2.2.2.2.2.2.2.2.2.2.2.2.2.2.2.2.2.2.2.2.1, h.1.2.2.2.2.2.2.2.2.2.2.2.2.2.2.2.2.2.2.2.2.2.2.2.2.2.2.2.2.2.2.2.2.2.2.2.2.2.2.2.2.2.2.2.2.2.1⟩
theorem sc_401 {z : Zt} {x t : Nat} {B : Nat → Nat → Nat → Nat} {N : Nat → Nat → Nat} (h : SC z x t B N) : zR z 401 (B 901 0 0) = some (B 401 0 0) ∧ isO z 1401 (B 401 0 0) := ⟨h.1.2.2.2.2.2.2.2.2.2.2.2.2.2.2.2.2.2.2.2.2.2.2.2.2.2.2.2.2.2.2.2.2.2.2.2.2.2.2.2.2.2.2.2.2.2.2.1, h.1.2.2.2.2.2.2.2.2.2.2.2.2.2.2.2.2.2.2.2.2.2.2.2.2.2.2.2.2.2.2.2.2.2.2.2.2.2.2.2.2.2.2.2.2.2.2.2.1⟩
theorem sc_402 {z : Zt} {x t : Nat} {B : Nat → Nat → Nat → Nat} {N : Nat → Nat → Nat} (h : SC z x t B N) : zR z 402 (B 901 0 0) = some (B 402 0 0) ∧ isO z 1402 (B 402 0 0) := ⟨h.1.2.2.2.2.2.2.2.2.2.2.2.2.2.2.2.2.2.2.2.2.2.2.2.2.2.2.2.2.2.2.2.2.2.2.2.2.2.2.2.2.2.2.2.2.2.2.2.2.1, h.1.2.2.2.2.2.2.2.2.2.2.2.2.2.2.2.2.2.2.2.2.2.2.2.2.2.2.2.2.2.2.2.2.2.2.2.2.2.2.2.2.2.2.2.2.2.2.2.2.2.1⟩
theorem sc_403 {z : Zt} {x t : Nat} {B : Nat → Nat → Nat → Nat} {N : Nat → Nat → Nat} (h : SC z x t B N) : zR z 403 (B 901 0 0) = some (B 403 0 0) ∧ isO z 1403 (B 403 0 0) := ⟨h.1.2.2.2.2.2.2.2.2.2.2.2.2.2.2.2.2.2.2.2.2.2.2.2.2.2.2.2.2.2.2.2.2.2.2.2.2.2.2.2.2.2.2.2.2.2.2.2.2.2.2.1, h.1.2.2.2.2.2.2.2.2.2.2.2.2.2.2.2.2.2.2.2.2.2.2.2.2.2.2.2.2.2.2.2.2.2.2.2.2.2.2.2.2.2.2.2.2.2.2.2.2.2.2.2.1⟩
theorem sc_404 {z : Zt} {x t : Nat} {B : Nat → Nat → Nat → Nat} {N : Nat → Nat → Nat} (h : SC z x t B N) : zR z 404 (B 901 0 0) = some (B 404 0 0) ∧ isO z 1404 (B 404 0 0) := ⟨h.1.2.2.2.2.2.2.2.2.2.2.2.2.2.2.2.2.2.2.2.2.2.2.2.2.2.2.2.2.2.2.2.2.2.2.2.2.2.2.2.2.2.2.2.2.2.2.2.2.2.2.2.2.1, h.1.2.2.2.2.2.2.2.2.2.2.2.2.2.2.2.2.2.2.2.2.2.2.2.2.2.2.2.2.2.2.2.2.2.2.2.2.2.2.2.2.2.2.2.2.2.2.2.2.2.2.2.2.2.1⟩
theorem sc_400s {z : Zt} {x t : Nat} {B : Nat → Nat → Nat → Nat} {N : Nat → Nat → Nat} (h : SC z x t B N) : zR z 400 (B 902 0 0) = some (B 400 1 0) ∧ isO z 1400 (B 400 1 0) := ⟨h.1.2.2.2.2.2.2.2.2.2.2.2.2.2.2.2.2.2.2.2.2.2.2.2.2.2.2.2.2.2.2.2.2.2.2.2.2.2.2.2.2.2.2.2.2.2.2.2.2.2.2.2.2.2.2.1, h.1.2.2.2.2.2.2.2.2.2.2.2.2.2.2.2.2.2.2.2.2.2.2.2.2.2.2.2.2.2.2.2.2.2.2.2.2.2.2.2.2.2.2.2.2.2.2.2.2.2.2.2.2.2.2.2.1⟩
theorem sc_401s {z : Zt} {x t : Nat} {B : Nat → Nat → Nat → Nat} {N : Nat → Nat → Nat} (h : SC z x t B N) : zR z 401 (B 902 0 0) = some (B 401 1 0) ∧ isO z 1401 (B 401 1 0) := ⟨h.1.2.2.2.2.2.2.2.2.2.2.2.2.2.2.2.2.2.2.2.2.2.2.2.2.2.2.2.2.2.2.2.2.2.2.2.2.2.2.2.2.2.2.2.2.2.2.2.2.2.2.2.2.2.2.2.2.1, h.1.2.2.2.2.2.2.2.2.2.2.2.2.2.2.2.2.2.2.2.2.2.2.2.2.2.2.2.2.2.2.2.2.2.2.2.2.2.2.2.2.2.2.2.2.2.2.2.2.2.2.2.2.2.2.2.2.2.1⟩
theorem sc_402s {z : Zt} {x t : Nat} {B : Nat → Nat → Nat → Nat} {N : Nat → Nat → Nat} (h : SC z x t B N) : zR z 402 (B 902 0 0) = some (B 402 1 0) ∧ isO z 1402 (B 402 1 0) := ⟨h.1.2.2.2.2.2.2.2.2.2.2.2.2.2.2.2.2.2.2.2.2.2.2.2.2.2.2.2.2.2.2.2.2.2.2.2.2.2.2.2.2.2.2.2.2.2.2.2.2.2.2.2.2.2.2.2.2.2.2.1, h.1.2.2.2.2.2.2.2.2.2.2.2.2.2.2.2.2.2.2.2.2.2.2.2.2.2.2.2.2.2.2.2.2.2.2.2.2.2.2.2.2.2.2.2.2.2.2.2.2.2.2.2.2.2.2.2.2.2.2.2.1⟩
theorem sc_403s {z : Zt} {x t : Nat} {B : Nat → Nat → Nat → Nat} {N : Nat → Nat → Nat} (h : SC z x t B N) : zR z 403 (B 902 0 0) = some (B 403 1 0) ∧ isO z 1403 (B 403 1 0) := ⟨h.1.2.2.2.2.2.2.2.2.2.2.2.2.2.2.2.2.2.2.2.2.2.2.2.2.2.2.2.2.2.2.2.2.2.2.2.2.2.2.2.2.2.2.2.2.2.2.2.2.2.2.2.2.2.2.2.2.2.2.2.2.1, h.1.2.2.2.2.2.2.2.2.2.2.2.2.2.2.2.2.2.2.2.2.2.2.2.2.2.2.2.2.2.2.2.2.2.2.2.2.2.2.2.2.2.2.2.2.2.2.2.2.2.2.2.2.2.2.2.2.2.2.2.2.2.1⟩
theorem sc_404s {z : Zt} {x t : Nat} {B : Nat → Nat → Nat → Nat} {N : Nat → Nat → Nat} (h : SC z x t B N) : zR z 404 (B 902 0 0) = some (B 404 1 0) ∧ isO z 1404 (B 404 1 0) := ⟨h.1.2.2.2.2.2.2.2.2.2.2.2.2.2.2.2.2.2.2.2.2.2.2.2.2.2.2.2.2.2.2.2.2.2.2.2.2.2.2.2.2.2.2.2.2.2.2.2.2.2.2.2.2.2.2.2.2.2.2.2.2.2.2.1, h.1.2.2.2.2.2.2.2.2.2.2.2.2.2.2.2.2.2.2.2.2.2.2.2.2.2.2.2.2.2.2.2.2.2.2.2.2.2.2.2.2.2.2.2.2.2.2.2.2.2.2.2.2.2.2.2.2.2.2.2.2.2.2.2.1⟩
theorem sc_ne901 {z : Zt} {x t : Nat} {B : Nat → Nat → Nat → Nat} {N : Nat → Nat → Nat} (h : SC z x t B N) : B 901 0 0 ≠ B 902 0 0 := h.1.2.2.2.2.2.2.2.2.2.2.2.2.2.2.2.2.2.2.2.2.2.2.2.2.2.2.2.2.2.2.2.2.2.2.2.2.2.2.2.2.2.2.2.2.2.2.2.2.2.2.2.2.2.2.2.2.2.2.2.2.2.2.2.2.1
theorem sc_ne400 {z : Zt} {x t : Nat} {B : Nat → Nat → Nat → Nat} {N : Nat → Nat → Nat} (h : SC z x t B N) : B 400 0 0 ≠ B 400 1 0 := h.1.2.2.2.2.2.2.2.2.2.2.2.2.2.2.2.2.2.2.2.2.2.2.2.2.2.2.2.2.2.2.2.2.2.2.2.2.2.2.2.2.2.2.2.2.2.2.2.2.2.2.2.2.2.2.2.2.2.2.2.2.2.2.2.2.2.1
theorem sc_ne401 {z : Zt} {x t : Nat} {B : Nat → Nat → Nat → Nat} {N : Nat → Nat → Nat} (h : SC z x t B N) : B 401 0 0 ≠ B 401 1 0 := h.1.2.2.2.2.2.2.2.2.2.2.2.2.2.2.2.2.2.2.2.2.2.2.2.2.2.2.2.2.2.2.2.2.2.2.2.2.2.2.2.2.2.2.2.2.2.2.2.2.2.2.2.2.2.2.2.2.2.2.2.2.2.2.2.2.2.2.1
theorem sc_ne402 {z : Zt} {x t : Nat} {B : Nat → Nat → Nat → Nat} {N : Nat → Nat → Nat} (h : SC z x t B N) : B 402 0 0 ≠ B 402 1 0 := h.1.2.2.2.2.2.2.2.2.2.2.2.2.2.2.2.2.2.2.2.2.2.2.2.2.2.2.2.2.2.2.2.2.2.2.2.2.2.2.2.2.2.2.2.2.2.2.2.2.2.2.2.2.2.2.2.2.2.2.2.2.2.2.2.2.2.2.2.1
theorem sc_ne403 {z : Zt} {x t : Nat} {B : Nat → Nat → Nat → Nat} {N : Nat → Nat → Nat} (h : SC z x t B N) : B 403 0 0 ≠ B 403 1 0 := h.1.2.2.2.2.2.2.2.2.2.2.2.2.2.2.2.2.2.2.2.2.2.2.2.2.2.2.2.2.2.2.2.2.2.2.2.2.2.2.2.2.2.2.2.2.2.2.2.2.2.2.2.2.2.2.2.2.2.2.2.2.2.2.2.2.2.2.2.2.1
theorem sc_ne404 {z : Zt} {x t : Nat} {B : Nat → Nat → Nat → Nat} {N : Nat → Nat → Nat} (h : SC z x t B N) : B 404 0 0 ≠ B 404 1 0 := h.1.2.2.2.2.2.2.2.2.2.2.2.2.2.2.2.2.2.2.2.2.2.2.2.2.2.2.2.2.2.2.2.2.2.2.2.2.2.2.2.2.2.2.2.2.2.2.2.2.2.2.2.2.2.2.2.2.2.2.2.2.2.2.2.2.2.2.2.2.2
theorem frW.rfl (cs ks : List Nat) (w : Vt) : frW cs ks w w := ⟨fun _ _ _ => Eq.refl _, fun _ _ _ _ => Eq.refl _⟩
theorem frW.uI {cs ks : List Nat} {w w1 : Vt} {c a : Nat} {v : Int32} (h : frW cs ks w w1) (hc : c ∉ cs) : frW cs ks w (uI w1 c a v) := by
  refine ⟨fun c' h' b => ?_, h.2⟩
  have hq : ¬ (c' = c ∧ b = a) := fun q => hc (q.1 ▸ h')
  rw [vI_u, if_neg hq]
  exact h.1 c' h' b
theorem frW.uA {cs ks : List Nat} {w w1 : Vt} {k a j : Nat} {v : Int32} (h : frW cs ks w w1) (hk : k ∉ ks) : frW cs ks w (uA w1 k a j v) := by
  refine ⟨h.1, fun k' h' b i => ?_⟩
  have hq : ¬ (k' = k ∧ b = a ∧ i = j) := fun q => hk (q.1 ▸ h')
  rw [rA_u, if_neg hq]
  exact h.2 k' h' b i
theorem frW.uF {cs ks : List Nat} {w w1 : Vt} {k a : Nat} {f : Nat → Int32} (h : frW cs ks w w1) (hk : k ∉ ks) : frW cs ks w (uF w1 k a f) := by
  refine ⟨h.1, fun k' h' b i => ?_⟩
  have hq : ¬ (k' = k ∧ b = a) := fun q => hk (q.1 ▸ h')
  rw [vA_uF, if_neg hq]
  exact h.2 k' h' b i
theorem frW.uL {cs ks : List Nat} {w w1 : Vt} {k a j : Nat} {v : Int64} (h : frW cs ks w w1) : frW cs ks w (uL w1 k a j v) := ⟨h.1, h.2⟩
theorem frW.trans {cs ks : List Nat} {w w1 w2 : Vt} (h : frW cs ks w w1) (h2 : frW cs ks w1 w2) : frW cs ks w w2 := ⟨fun c hc a => (h2.1 c hc a).trans (h.1 c hc a), fun k hk a i => (h2.2 k hk a i).trans (h.2 k hk a i)⟩
theorem frW.sub {cs ks cs1 ks1 : List Nat} {w w1 : Vt} (h : frW cs ks w w1) (h1 : ∀ c ∈ cs1, c ∈ cs) (h2 : ∀ k ∈ ks1, k ∈ ks) : frW cs1 ks1 w w1 := ⟨fun c hc a => h.1 c (h1 c hc) a, fun k hk a i => h.2 k (h2 k hk) a i⟩
abbrev aC : List Nat := [914, 915, 801, 903, 405, 406, 905, 601, 602, 500, 501, 502, 503, 504, 505, 506, 507, 508, 1, 2, 3, 4, 5, 6, 7, 908, 301, 302, 910, 200, 201, 202, 203, 204, 705, 103]
abbrev aK : List Nat := [1800, 1400, 1401, 1402, 1403, 1404, 1000, 1700, 1701, 1702, 1703, 1704, 1100, 1101, 1102]
abbrev mC : List Nat := [1001, 1002, 1034, 1038, 1029, 1031, 1014, 1026, 1041, 1047, 1051]
abbrev mK : List Nat := [2033, 2027, 2012, 2013, 2003, 2004, 2005, 2006, 2007, 2008, 2009, 2010, 2011, 2015, 2016, 2017, 2018, 2019, 2020, 2021, 2022, 2023, 2024, 2025, 2040, 2042, 2043, 2044, 2045, 2046, 2048, 2049, 2050]
theorem vFam.mono {k k1 : Nat} {B : Nat → Nat → Nat → Nat} {M : Nat → Nat} {wc wm : Vt} (h : vFam k B M wc wm) (hk : k ≤ k1) : vFam k1 B M wc wm := by
  refine ⟨fun i hi => ?_, h.2⟩
  obtain ⟨e1, e2, e3, e4, e5, e6, e7, v, hv, e8⟩ := h.1 i hi
  exact ⟨e1, e2, e3, e4, e5, e6, e7, v, Nat.le_trans hv (Nat.mul_le_mul_left _ hk), e8⟩
theorem VV.fr {x m k : Nat} {B : Nat → Nat → Nat → Nat} {N : Nat → Nat → Nat} {M : Nat → Nat} {wc wm wc1 wm1 : Vt} (h : VV x m k B N M wc wm) (hc : frW aC aK wc wc1) (hm : frW mC mK wm wm1) : VV x m k B N M wc1 wm1 := by
  obtain ⟨h1, h2, h3, h4, h5, h6, h7, h8, h9, h10⟩ := h
  refine ⟨h1.fr (hc.sub ?_ ?_) (hm.sub ?_ ?_), h2.fr (hc.sub ?_ ?_) (hm.sub ?_ ?_), h3.fr (hc.sub ?_ ?_) (hm.sub ?_ ?_), h4.fr (hc.sub ?_ ?_) (hm.sub ?_ ?_), h5.fr (hc.sub ?_ ?_) (hm.sub ?_ ?_), h6.fr (hc.sub ?_ ?_) (hm.sub ?_ ?_), h7.fr (hc.sub ?_ ?_) (hm.sub ?_ ?_), h8.fr (hc.sub ?_ ?_) (hm.sub ?_ ?_), h9.fr (hc.sub ?_ ?_) (hm.sub ?_ ?_), h10.fr (hc.sub ?_ ?_) (hm.sub ?_ ?_)⟩ <;> decide
theorem VV.up {x m k k1 : Nat} {B : Nat → Nat → Nat → Nat} {N : Nat → Nat → Nat} {M : Nat → Nat} {wc wm : Vt} (h : VV x m k B N M wc wm) (hk : k ≤ k1) : VV x m k1 B N M wc wm := by
  obtain ⟨h1, h2, h3, h4, h5, h6, h7, h8, h9, h10⟩ := h
  exact ⟨h1, h2, h3, h4, h5, h6.mono hk, h7, h8, h9, h10⟩
theorem lw_keep {x m t k : Nat} {zc zm : Zt} {wc wm wc1 wm1 : Vt} (h : lw_I x m t k zc wc zm wm) (hc : frW aC aK wc wc1) (hm : frW mC mK wm wm1) : lw_I x m t (k + 1) zc wc1 zm wm1 := by
  obtain ⟨B, N, M, hS, hM, hV⟩ := h
  exact ⟨B, N, M, hS, hM, (hV.fr hc hm).up (Nat.le_succ k)⟩
theorem lw_mono (x m t k : Nat) (zc : Zt) (wc : Vt) (zm : Zt) (wm : Vt) (_ : k < 512) (h : lw_I x m t k zc wc zm wm) : lw_I x m t (k + 1) zc wc zm wm := lw_keep h (frW.rfl _ _ _) (frW.rfl _ _ _)
section NEED
variable {z : Zt} {x t : Nat} {B : Nat → Nat → Nat → Nat} {N : Nat → Nat → Nat} {w : Vt} {K : Nat → Vt → Prop} {X : Nat → Vt → Prop} {p : Int32} {i r : Nat}
theorem in_out {p : Int32} {n : Nat} (hn : n ≤ 1000000) (h : inI p 0 (nI n - 1) = 0) : p < 0 ∨ (¬ p < 0 ∧ ∃ j : Nat, j < 2147483648 ∧ n ≤ j ∧ p = nI j) := by
  by_cases h1 : p < 0
  · exact Or.inl h1
  · obtain ⟨j, hj, rfl⟩ := nI_of h1
    refine Or.inr ⟨h1, j, hj, ?_, rfl⟩
    rcases Nat.lt_or_ge j n with q | q
    · rw [inI_nI q hn] at h
      exact absurd h (by decide)
    · exact q
theorem nF1 (hS : SC z x t B N) (hi : i < 8) : wp_X9_needFamily z x (nI i) w K X ↔ K (B 1906 i 0) w := by
  unfold wp_X9_needFamily
  have h1 : ¬ nI i < 0 := nI_pos (by omega)
  have h2 : nI i < 8 := nI_lt (b := 8) hi (by decide)
  have h3 : vp_in (nI i) 8 := vp_in_nI hi (by decide)
  have h4 : (nI i).toNatClampNeg = i := nI_clamp (by omega)
  obtain ⟨h5, h6, -⟩ := hS.2.1.1 i hi
  simp [h1, h2, h3, h4, h5, h6, sc_x hS, sc_906 hS]
theorem nF0 (hS : SC z x t B N) (h : inI p 0 7 = 0) : wp_X9_needFamily z x p w K X ↔ X 1 w := by
  rw [← i8_eq] at h
  unfold wp_X9_needFamily
  rcases in_out (by decide) h with h1 | ⟨h1, j, hj, h2, rfl⟩
  · simp [h1, sc_x hS]
  · have h3 : ¬ nI j < 8 := nI_nlt (b := 8) h2 hj
    simp [h1, h3, sc_x hS, sc_906 hS]
theorem nS1 (hS : SC z x t B N) (hi : i < N 905 0) : wp_X9_needShore z x (nI i) w K X ↔ K (B 1904 i 0) w := by
  have hn := hS.2.2.1.1
  unfold wp_X9_needShore
  have h1 : ¬ nI i < 0 := nI_pos (by omega)
  have h2 : nI i < 6 := nI_lt (b := 6) (by omega) (by decide)
  have h3 : vp_in (nI i) 6 := vp_in_nI (by omega) (by decide)
  have h4 : (nI i).toNatClampNeg = i := nI_clamp (by omega)
  have h5 := hS.2.2.1.2.1 i (by omega)
  rw [if_pos hi] at h5
  have h6 := (hS.2.2.1.2.2.1 i hi).1
  simp [h1, h2, h3, h4, h5, h6, sc_x hS, sc_904 hS]
theorem nS0 (hS : SC z x t B N) (h : inI p 0 (nI (N 905 0) - 1) = 0) : wp_X9_needShore z x p w K X ↔ X 1 w := by
  have hn := hS.2.2.1.1
  unfold wp_X9_needShore
  rcases in_out (by omega) h with h1 | ⟨h1, j, hj, h2, rfl⟩
  · simp [h1, sc_x hS]
  · by_cases h3 : j < 6
    · have h5 := hS.2.2.1.2.1 j h3
      rw [if_neg (by omega)] at h5
      have h6 : nI j < 6 := nI_lt (b := 6) h3 (by decide)
      have h7 : vp_in (nI j) 6 := vp_in_nI h3 (by decide)
      have h8 : (nI j).toNatClampNeg = j := nI_clamp hj
      simp [h1, h6, h7, h8, h5, sc_x hS, sc_904 hS]
    · have h6 : ¬ nI j < 6 := nI_nlt (b := 6) (by omega) hj
      simp [h1, h6, sc_x hS, sc_904 hS]
theorem nR1 (hS : SC z x t B N) (hi : i < N 905 0) (hr : r < N 601 i) : wp_X9_needRock z (B 1904 i 0) (nI r) w K X ↔ K (B 1600 i r) w := by
  obtain ⟨s1, s2, s3, s4⟩ := hS.2.2.1.2.2.1 i hi
  unfold wp_X9_needRock
  have h1 : ¬ nI r < 0 := nI_pos (by omega)
  have h2 : nI r < 4 := nI_lt (b := 4) (by omega) (by decide)
  have h3 : vp_in (nI r) 4 := vp_in_nI (by omega) (by decide)
  have h4 : (nI r).toNatClampNeg = r := nI_clamp (by omega)
  have h5 := hS.2.2.2.1.1 i r hi (by omega)
  rw [if_pos hr] at h5
  have h6 := hS.2.2.2.1.2.1 i r hi hr
  simp [h1, h2, h3, h4, h5, h6, s1, s2, s3]
theorem nR0 (hS : SC z x t B N) (hi : i < N 905 0) (h : inI p 0 (nI (N 601 i) - 1) = 0) : wp_X9_needRock z (B 1904 i 0) p w K X ↔ X 1 w := by
  obtain ⟨s1, s2, s3, s4⟩ := hS.2.2.1.2.2.1 i hi
  unfold wp_X9_needRock
  rcases in_out (by omega) h with h1 | ⟨h1, j, hj, h2, rfl⟩
  · simp [h1, s1]
  · by_cases h3 : j < 4
    · have h5 := hS.2.2.2.1.1 i j hi h3
      rw [if_neg (by omega)] at h5
      have h6 : nI j < 4 := nI_lt (b := 4) h3 (by decide)
      have h7 : vp_in (nI j) 4 := vp_in_nI h3 (by decide)
      have h8 : (nI j).toNatClampNeg = j := nI_clamp hj
      simp [h1, h6, h7, h8, h5, s1, s2, s3]
    · have h6 : ¬ nI j < 4 := nI_nlt (b := 4) (by omega) hj
      simp [h1, h6, s1, s2, s3]
theorem nP1 (hS : SC z x t B N) (hi : i < N 908 0) : wp_X9_needPit z x (nI i) w K X ↔ K (B 1907 i 0) w := by
  have hn := hS.2.2.2.2.1.1
  unfold wp_X9_needPit
  have h1 : ¬ nI i < 0 := nI_pos (by omega)
  have h2 : nI i < 12 := nI_lt (b := 12) (by omega) (by decide)
  have h3 : vp_in (nI i) 12 := vp_in_nI (by omega) (by decide)
  have h4 : (nI i).toNatClampNeg = i := nI_clamp (by omega)
  have h5 := hS.2.2.2.2.1.2.1 i (by omega)
  rw [if_pos hi] at h5
  have h6 := (hS.2.2.2.2.1.2.2.1 i hi).1
  simp [h1, h2, h3, h4, h5, h6, sc_x hS, sc_907 hS]
theorem nP0 (hS : SC z x t B N) (h : inI p 0 (nI (N 908 0) - 1) = 0) : wp_X9_needPit z x p w K X ↔ X 1 w := by
  have hn := hS.2.2.2.2.1.1
  unfold wp_X9_needPit
  rcases in_out (by omega) h with h1 | ⟨h1, j, hj, h2, rfl⟩
  · simp [h1, sc_x hS]
  · by_cases h3 : j < 12
    · have h5 := hS.2.2.2.2.1.2.1 j h3
      rw [if_neg (by omega)] at h5
      have h6 : nI j < 12 := nI_lt (b := 12) h3 (by decide)
      have h7 : vp_in (nI j) 12 := vp_in_nI h3 (by decide)
      have h8 : (nI j).toNatClampNeg = j := nI_clamp hj
      simp [h1, h6, h7, h8, h5, sc_x hS, sc_907 hS]
    · have h6 : ¬ nI j < 12 := nI_nlt (b := 12) (by omega) hj
      simp [h1, h6, sc_x hS, sc_907 hS]
theorem nL1 (hS : SC z x t B N) (hi : i < N 910 0) : wp_X9_needLot z x (nI i) w K X ↔ K (B 1909 i 0) w := by
  have hn := hS.2.2.2.2.2.1
  unfold wp_X9_needLot
  have h1 : ¬ nI i < 0 := nI_pos (by omega)
  have h2 : nI i < 60 := nI_lt (b := 60) (by omega) (by decide)
  have h3 : vp_in (nI i) 60 := vp_in_nI (by omega) (by decide)
  have h4 : (nI i).toNatClampNeg = i := nI_clamp (by omega)
  have h5 := hS.2.2.2.2.2.2.1 i (by omega)
  rw [if_pos hi] at h5
  have h6 := hS.2.2.2.2.2.2.2.1 i hi
  simp [h1, h2, h3, h4, h5, h6, sc_x hS, sc_909 hS]
theorem nL0 (hS : SC z x t B N) (h : inI p 0 (nI (N 910 0) - 1) = 0) : wp_X9_needLot z x p w K X ↔ X 1 w := by
  have hn := hS.2.2.2.2.2.1
  unfold wp_X9_needLot
  rcases in_out (by omega) h with h1 | ⟨h1, j, hj, h2, rfl⟩
  · simp [h1, sc_x hS]
  · by_cases h3 : j < 60
    · have h5 := hS.2.2.2.2.2.2.1 j h3
      rw [if_neg (by omega)] at h5
      have h6 : nI j < 60 := nI_lt (b := 60) h3 (by decide)
      have h7 : vp_in (nI j) 60 := vp_in_nI h3 (by decide)
      have h8 : (nI j).toNatClampNeg = j := nI_clamp hj
      simp [h1, h6, h7, h8, h5, sc_x hS, sc_909 hS]
    · have h6 : ¬ nI j < 60 := nI_nlt (b := 60) (by omega) hj
      simp [h1, h6, sc_x hS, sc_909 hS]
end NEED
section MNEED
variable {z : Zt} {m : Nat} {M : Nat → Nat} {w : Vt} {K : Int32 → Vt → Prop} {p q : Int32} {n : Nat}
theorem in_flip (v : Int32) (hv : v = 0 ∨ v = 1) (w : Vt) (K : Int32 → Vt → Prop) : ((¬ v = 0 → K 0 w) ∧ (v = 0 → K 1 w)) ↔ K (1 - v) w := by
  rcases hv with rfl | rfl
  · exact ⟨fun h => h.2 rfl, fun h => ⟨fun q => absurd rfl q, fun _ => h⟩⟩
  · exact ⟨fun h => h.1 (by decide), fun h => ⟨fun _ => h, fun q => absurd q (by decide)⟩⟩
theorem mF : wp_X10_noFamily z p w K ↔ K (1 - inI p 0 7) w := by
  unfold wp_X10_noFamily
  rw [in10]
  exact in_flip _ (inI_01 _ _ _) w K
theorem mS (hM : SM z m M) (h : vI w 1014 m = nI n) : wp_X10_noShore z m p w K ↔ K (1 - inI p 0 (nI n - 1)) w := by
  unfold wp_X10_noShore
  rw [in10, h]
  simp only [sm_m hM, true_and]
  exact in_flip _ (inI_01 _ _ _) w K
theorem mP (hM : SM z m M) (h : vI w 1026 m = nI n) : wp_X10_noPit z m p w K ↔ K (1 - inI p 0 (nI n - 1)) w := by
  unfold wp_X10_noPit
  rw [in10, h]
  simp only [sm_m hM, true_and]
  exact in_flip _ (inI_01 _ _ _) w K
end MNEED
theorem i10 : (1 : Int32) - 0 = 1 := by decide
theorem i11 : (1 : Int32) - 1 = 0 := by decide
theorem jx (P : Int32 → Vt → Prop) (a : Int32) (w1 : Vt) : (∃ J : Int32 → Vt → Prop, (∀ (x : Int32) (w : Vt), J x w → P x w) ∧ J a w1) ↔ P a w1 :=
  ⟨fun ⟨_, h1, h2⟩ => h1 _ _ h2, fun h => ⟨P, fun _ _ h => h, h⟩⟩
theorem jx0 (P : Vt → Prop) (w1 : Vt) : (∃ J : Vt → Prop, (∀ w : Vt, J w → P w) ∧ J w1) ↔ P w1 :=
  ⟨fun ⟨_, h1, h2⟩ => h1 _ h2, fun h => ⟨P, fun _ h => h, h⟩⟩
theorem jb (P : Int32 → Vt → Prop) (a b : Int32) (w1 w2 : Vt) (c d : Prop) : (∃ J : Int32 → Vt → Prop, (∀ (x : Int32) (w : Vt), J x w → P x w) ∧ (c → J a w1) ∧ (d → J b w2)) ↔ (c → P a w1) ∧ (d → P b w2) :=
  ⟨fun ⟨_, h1, h2, h3⟩ => ⟨fun h => h1 _ _ (h2 h), fun h => h1 _ _ (h3 h)⟩, fun h => ⟨P, fun _ _ h => h, h⟩⟩
theorem jb0 (P : Vt → Prop) (w1 w2 : Vt) (c d : Prop) : (∃ J : Vt → Prop, (∀ w : Vt, J w → P w) ∧ (c → J w1) ∧ (d → J w2)) ↔ (c → P w1) ∧ (d → P w2) :=
  ⟨fun ⟨_, h1, h2, h3⟩ => ⟨fun h => h1 _ (h2 h), fun h => h1 _ (h3 h)⟩, fun h => ⟨P, fun _ h => h, h⟩⟩
