/-! The law's method passes the check, entries 300 on. -/
section ZOKL1
theorem zr_law_5 : zOkR kLaw_law 300 60 = true := by decide +kernel
theorem zr_law_6 : zOkR kLaw_law 360 60 = true := by decide +kernel
theorem zr_law_7 : zOkR kLaw_law 420 60 = true := by decide +kernel
theorem zr_law_8 : zOkR kLaw_law 480 60 = true := by decide +kernel
theorem zr_law_9 : zOkR kLaw_law 540 60 = true := by decide +kernel
end ZOKL1
