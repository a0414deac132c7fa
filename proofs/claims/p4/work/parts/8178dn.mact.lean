/-! runs of readAct -/
theorem naR_2_1_5 : yRun naI (naC 2 5) [] naQ 0 8000 2 (az_yl 95 9 (fun _ _ _ _ _ _ => false) (naE 2 1)) (naD 2 1) = true := by decide +kernel
theorem naR_2_1_6 : yRun naI (naC 2 6) [] naQ 0 8000 2 (az_yl 95 9 (fun _ _ _ _ _ _ => false) (naE 2 1)) (naD 2 1) = true := by decide +kernel
theorem naR_2_1_7 : yRun naI (naC 2 7) [] naQ 0 8000 2 (az_yl 95 9 (fun _ _ _ _ _ _ => false) (naE 2 1)) (naD 2 1) = true := by decide +kernel
theorem naR_2_1_8 : yRun naI (naC 2 8) [] naQ 0 8000 2 (az_yl 95 9 (fun _ _ _ _ _ _ => false) (naE 2 1)) (naD 2 1) = true := by decide +kernel
theorem naR_2_1_9 : yRun naI (naC 2 9) [] naQ 0 8000 2 (az_yl 95 9 (fun _ _ _ _ _ _ => false) (naE 2 1)) (naD 2 1) = true := by decide +kernel
