/-! the tables of the law against its bytes -/
theorem ckc0_0 : ckCh 0 bv0_c0 = true := by decide +kernel
theorem ckl0 : ckML 0 = true := ckc0_0
theorem ckc1_0 : ckCh 1 bv1_c0 = true := by decide +kernel
theorem ckl1 : ckML 1 = true := ckc1_0
theorem ckc2_0 : ckCh 2 bv2_c0 = true := by decide +kernel
theorem ckc2_1 : ckCh 2 bv2_c1 = true := by decide +kernel
theorem ckc2_2 : ckCh 2 bv2_c2 = true := by decide +kernel
theorem ckc2_3 : ckCh 2 bv2_c3 = true := by decide +kernel
theorem ckc2_4 : ckCh 2 bv2_c4 = true := by decide +kernel
theorem ckc2_5 : ckCh 2 bv2_c5 = true := by decide +kernel
theorem ckc2_6 : ckCh 2 bv2_c6 = true := by decide +kernel
theorem ckc2_7 : ckCh 2 bv2_c7 = true := by decide +kernel
theorem ckc2_8 : ckCh 2 bv2_c8 = true := by decide +kernel
theorem ckl2 : ckML 2 = true := (ckCh_a ckc2_0 (ckCh_a ckc2_1 (ckCh_a ckc2_2 (ckCh_a ckc2_3 (ckCh_a ckc2_4 (ckCh_a ckc2_5 (ckCh_a ckc2_6 (ckCh_a ckc2_7 ckc2_8))))))))
theorem ckc3_0 : ckCh 3 bv3_c0 = true := by decide +kernel
theorem ckc3_1 : ckCh 3 bv3_c1 = true := by decide +kernel
theorem ckc3_2 : ckCh 3 bv3_c2 = true := by decide +kernel
theorem ckc3_3 : ckCh 3 bv3_c3 = true := by decide +kernel
theorem ckl3 : ckML 3 = true := (ckCh_a ckc3_0 (ckCh_a ckc3_1 (ckCh_a ckc3_2 ckc3_3)))
