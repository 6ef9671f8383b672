/-! The law's method passes the check, entries 600 on. -/
section ZOKL2
theorem zr_law_10 : zOkR kLaw_law 600 60 = true := by decide +kernel
theorem zr_law_11 : zOkR kLaw_law 660 60 = true := by decide +kernel
theorem zr_law_12 : zOkR kLaw_law 720 60 = true := by decide +kernel
theorem zr_law_13 : zOkR kLaw_law 780 60 = true := by decide +kernel
end ZOKL2
