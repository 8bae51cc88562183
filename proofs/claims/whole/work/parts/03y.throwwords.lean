theorem xf_1 : Bundle.fit "java/lang/IndexOutOfBoundsException" = true := by decide +kernel
theorem xb_X9_323 : ∀ w ∈ (vx_atS RX9 323 "java/lang/IndexOutOfBoundsException" xNs).filter (fun w => !goodWord w), w ∈ xB "java/lang/IndexOutOfBoundsException" := by decide +kernel
theorem xg_X9_323 : ∀ w ∈ Cond.classLink RX9 319 "java/lang/IndexOutOfBoundsException" :: Cond.initialized "java/lang/IndexOutOfBoundsException" :: vx_atS RX9 323 "java/lang/IndexOutOfBoundsException" xNs, vx_ot w = true := by decide +kernel
theorem xf_2 : Bundle.fit "java/lang/IllegalArgumentException" = true := by decide +kernel
theorem xb_X9_94 : ∀ w ∈ (vx_atS RX9 94 "java/lang/IllegalArgumentException" xNs).filter (fun w => !goodWord w), w ∈ xB "java/lang/IllegalArgumentException" := by decide +kernel
theorem xg_X9_94 : ∀ w ∈ Cond.classLink RX9 90 "java/lang/IllegalArgumentException" :: Cond.initialized "java/lang/IllegalArgumentException" :: vx_atS RX9 94 "java/lang/IllegalArgumentException" xNs, vx_ot w = true := by decide +kernel
theorem xf_3 : Bundle.fit "java/lang/UnsupportedOperationException" = true := by decide +kernel
theorem xb_X9_113 : ∀ w ∈ (vx_atS RX9 113 "java/lang/UnsupportedOperationException" xNs).filter (fun w => !goodWord w), w ∈ xB "java/lang/UnsupportedOperationException" := by decide +kernel
theorem xg_X9_113 : ∀ w ∈ Cond.classLink RX9 109 "java/lang/UnsupportedOperationException" :: Cond.initialized "java/lang/UnsupportedOperationException" :: vx_atS RX9 113 "java/lang/UnsupportedOperationException" xNs, vx_ot w = true := by decide +kernel
theorem xf_4 : Bundle.fit "java/util/NoSuchElementException" = true := by decide +kernel
theorem xb_X9_167 : ∀ w ∈ (vx_atS RX9 167 "java/util/NoSuchElementException" xNs).filter (fun w => !goodWord w), w ∈ xB "java/util/NoSuchElementException" := by decide +kernel
theorem xg_X9_167 : ∀ w ∈ Cond.classLink RX9 163 "java/util/NoSuchElementException" :: Cond.initialized "java/util/NoSuchElementException" :: vx_atS RX9 167 "java/util/NoSuchElementException" xNs, vx_ot w = true := by decide +kernel
