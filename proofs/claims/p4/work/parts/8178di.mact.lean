/-! runs of readAct -/
theorem naR_1_1_5 : yRun naI (naC 1 5) [] naQ 0 8000 2 (az_yl 95 9 (fun _ _ _ _ _ _ => false) (naE 1 1)) (naD 1 1) = true := by decide +kernel
theorem naR_1_1_6 : yRun naI (naC 1 6) [] naQ 0 8000 2 (az_yl 95 9 (fun _ _ _ _ _ _ => false) (naE 1 1)) (naD 1 1) = true := by decide +kernel
theorem naR_1_1_7 : yRun naI (naC 1 7) [] naQ 0 8000 2 (az_yl 95 9 (fun _ _ _ _ _ _ => false) (naE 1 1)) (naD 1 1) = true := by decide +kernel
theorem naR_1_1_8 : yRun naI (naC 1 8) [] naQ 0 8000 2 (az_yl 95 9 (fun _ _ _ _ _ _ => false) (naE 1 1)) (naD 1 1) = true := by decide +kernel
theorem naR_1_1_9 : yRun naI (naC 1 9) [] naQ 0 8000 2 (az_yl 95 9 (fun _ _ _ _ _ _ => false) (naE 1 1)) (naD 1 1) = true := by decide +kernel
