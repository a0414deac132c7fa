/-! runs of readAct -/
theorem naR_0_1_0 : yRun naI (naC 0 0) [] naQ 0 8000 2 (az_yl 95 9 (fun _ _ _ _ _ _ => false) (naE 0 1)) (naD 0 1) = true := by decide +kernel
theorem naR_0_1_1 : yRun naI (naC 0 1) [] naQ 0 8000 2 (az_yl 95 9 (fun _ _ _ _ _ _ => false) (naE 0 1)) (naD 0 1) = true := by decide +kernel
theorem naR_0_1_2 : yRun naI (naC 0 2) [] naQ 0 8000 2 (az_yl 95 9 (fun _ _ _ _ _ _ => false) (naE 0 1)) (naD 0 1) = true := by decide +kernel
theorem naR_0_1_3 : yRun naI (naC 0 3) [] naQ 0 8000 2 (az_yl 95 9 (fun _ _ _ _ _ _ => false) (naE 0 1)) (naD 0 1) = true := by decide +kernel
theorem naR_0_1_4 : yRun naI (naC 0 4) [] naQ 0 8000 2 (az_yl 95 9 (fun _ _ _ _ _ _ => false) (naE 0 1)) (naD 0 1) = true := by decide +kernel
