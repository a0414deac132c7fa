/-! runs of readAct -/
theorem naR_0_2_5 : yRun naI (naC 0 5) [] naQ 0 8000 2 (az_yl 95 9 (fun _ _ _ _ _ _ => false) (naE 0 2)) (naD 0 2) = true := by decide +kernel
theorem naR_0_2_6 : yRun naI (naC 0 6) [] naQ 0 8000 2 (az_yl 95 9 (fun _ _ _ _ _ _ => false) (naE 0 2)) (naD 0 2) = true := by decide +kernel
theorem naR_0_2_7 : yRun naI (naC 0 7) [] naQ 0 8000 2 (az_yl 95 9 (fun _ _ _ _ _ _ => false) (naE 0 2)) (naD 0 2) = true := by decide +kernel
theorem naR_0_2_8 : yRun naI (naC 0 8) [] naQ 0 8000 2 (az_yl 95 9 (fun _ _ _ _ _ _ => false) (naE 0 2)) (naD 0 2) = true := by decide +kernel
theorem naR_0_2_9 : yRun naI (naC 0 9) [] naQ 0 8000 2 (az_yl 95 9 (fun _ _ _ _ _ _ => false) (naE 0 2)) (naD 0 2) = true := by decide +kernel
