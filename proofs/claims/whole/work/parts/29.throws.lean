theorem tf_56 : Bundle.fit sISE = true := by decide +kernel
theorem tv_56 : ∀ w ∈ Cond.classLink "AnagramButcher" 52 sISE :: Cond.initialized sISE :: vx_atS "AnagramButcher" 56 sISE ["java/lang/RuntimeException", "java/lang/Exception"], vx_ot w = true := by decide +kernel
theorem tw_56 : ∀ w ∈ (vx_atS "AnagramButcher" 56 sISE ["java/lang/RuntimeException", "java/lang/Exception"]).filter (fun w => !goodWord w), w ∈ Cond.castable sISE sISE :: nD.map Cond.declares := by decide +kernel
theorem tf_82 : Bundle.fit sNSE = true := by decide +kernel
theorem tv_82 : ∀ w ∈ Cond.classLink "AnagramButcher" 78 sNSE :: Cond.initialized sNSE :: vx_atS "AnagramButcher" 82 sNSE ["java/lang/RuntimeException", "java/lang/Exception"], vx_ot w = true := by decide +kernel
theorem tw_82 : ∀ w ∈ (vx_atS "AnagramButcher" 82 sNSE ["java/lang/RuntimeException", "java/lang/Exception"]).filter (fun w => !goodWord w), w ∈ Cond.castable sNSE sNSE :: nD.map Cond.declares := by decide +kernel
theorem tf_267 : Bundle.fit sIOB = true := by decide +kernel
theorem tv_267 : ∀ w ∈ Cond.classLink "AnagramButcher" 263 sIOB :: Cond.initialized sIOB :: vx_atS "AnagramButcher" 267 sIOB ["java/lang/RuntimeException", "java/lang/Exception"], vx_ot w = true := by decide +kernel
theorem tw_267 : ∀ w ∈ (vx_atS "AnagramButcher" 267 sIOB ["java/lang/RuntimeException", "java/lang/Exception"]).filter (fun w => !goodWord w), w ∈ Cond.castable sIOB sIOB :: nD.map Cond.declares := by decide +kernel
theorem tf_279 : Bundle.fit sIAE = true := by decide +kernel
theorem tv_279 : ∀ w ∈ Cond.classLink "AnagramButcher" 275 sIAE :: Cond.initialized sIAE :: vx_atS "AnagramButcher" 279 sIAE ["java/lang/RuntimeException", "java/lang/Exception"], vx_ot w = true := by decide +kernel
theorem tw_279 : ∀ w ∈ (vx_atS "AnagramButcher" 279 sIAE ["java/lang/RuntimeException", "java/lang/Exception"]).filter (fun w => !goodWord w), w ∈ Cond.castable sIAE sIAE :: nD.map Cond.declares := by decide +kernel
