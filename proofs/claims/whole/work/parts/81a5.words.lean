theorem axM_12_0 : (((axMt 12).drop 0).take 24).all (okMb 12) = true := by decide +kernel
theorem axM_12_1 : (((axMt 12).drop 24).take 24).all (okMb 12) = true := by decide +kernel
theorem axM_12_2 : (((axMt 12).drop 48).take 24).all (okMb 12) = true := by decide +kernel
