abbrev zt_up : List String := ["java/lang/RuntimeException", "java/lang/Exception"]
set_option maxRecDepth 100000 in
theorem zt_ise : (Bundle.ownAtoms0 "ZoneAnswers" 47 "java/lang/IllegalStateException" zt_up).all zt_ok = true := by decide +kernel
set_option maxRecDepth 100000 in
theorem zt_iae : (Bundle.ownAtoms0 "ZoneAnswers" 58 "java/lang/IllegalArgumentException" zt_up).all zt_ok = true := by decide +kernel
