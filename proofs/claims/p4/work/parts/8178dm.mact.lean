/-! runs of readAct -/
theorem naR_2_1_0 : yRun naI (naC 2 0) [] naQ 0 8000 2 (az_yl 95 9 (fun _ _ _ _ _ _ => false) (naE 2 1)) (naD 2 1) = true := by decide +kernel
theorem naR_2_1_1 : yRun naI (naC 2 1) [] naQ 0 8000 2 (az_yl 95 9 (fun _ _ _ _ _ _ => false) (naE 2 1)) (naD 2 1) = true := by decide +kernel
theorem naR_2_1_2 : yRun naI (naC 2 2) [] naQ 0 8000 2 (az_yl 95 9 (fun _ _ _ _ _ _ => false) (naE 2 1)) (naD 2 1) = true := by decide +kernel
theorem naR_2_1_3 : yRun naI (naC 2 3) [] naQ 0 8000 2 (az_yl 95 9 (fun _ _ _ _ _ _ => false) (naE 2 1)) (naD 2 1) = true := by decide +kernel
theorem naR_2_1_4 : yRun naI (naC 2 4) [] naQ 0 8000 2 (az_yl 95 9 (fun _ _ _ _ _ _ => false) (naE 2 1)) (naD 2 1) = true := by decide +kernel
