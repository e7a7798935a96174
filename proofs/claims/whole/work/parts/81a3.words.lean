theorem axM_4_0 : (((axMt 4).drop 0).take 24).all (okMb 4) = true := by decide +kernel
theorem axM_5_0 : (((axMt 5).drop 0).take 24).all (okMb 5) = true := by decide +kernel
theorem axM_6_0 : (((axMt 6).drop 0).take 24).all (okMb 6) = true := by decide +kernel
theorem axM_7_0 : (((axMt 7).drop 0).take 24).all (okMb 7) = true := by decide +kernel
