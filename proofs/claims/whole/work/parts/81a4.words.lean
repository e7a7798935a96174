theorem axM_8_0 : (((axMt 8).drop 0).take 24).all (okMb 8) = true := by decide +kernel
theorem axM_9_0 : (((axMt 9).drop 0).take 24).all (okMb 9) = true := by decide +kernel
theorem axM_10_0 : (((axMt 10).drop 0).take 24).all (okMb 10) = true := by decide +kernel
theorem axM_11_0 : (((axMt 11).drop 0).take 24).all (okMb 11) = true := by decide +kernel
theorem axM_11_1 : (((axMt 11).drop 24).take 24).all (okMb 11) = true := by decide +kernel
theorem axM_11_2 : (((axMt 11).drop 48).take 24).all (okMb 11) = true := by decide +kernel
