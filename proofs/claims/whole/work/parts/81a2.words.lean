theorem axM_0_0 : (((axMt 0).drop 0).take 24).all (okMb 0) = true := by decide +kernel
theorem axM_1_0 : (((axMt 1).drop 0).take 24).all (okMb 1) = true := by decide +kernel
theorem axM_2_0 : (((axMt 2).drop 0).take 24).all (okMb 2) = true := by decide +kernel
theorem axM_2_1 : (((axMt 2).drop 24).take 24).all (okMb 2) = true := by decide +kernel
theorem axM_3_0 : (((axMt 3).drop 0).take 24).all (okMb 3) = true := by decide +kernel
