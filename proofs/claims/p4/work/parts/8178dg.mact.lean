/-! runs of readAct -/
theorem naR_1_0_0 : yRun naI (naC 1 0) [] naQ 0 8000 2 (az_yl 95 9 (fun _ _ _ _ _ _ => false) (naE 1 0)) (naD 1 0) = true := by decide +kernel
theorem naR_1_0_1 : yRun naI (naC 1 1) [] naQ 0 8000 2 (az_yl 95 9 (fun _ _ _ _ _ _ => false) (naE 1 0)) (naD 1 0) = true := by decide +kernel
theorem naR_1_0_2 : yRun naI (naC 1 2) [] naQ 0 8000 2 (az_yl 95 9 (fun _ _ _ _ _ _ => false) (naE 1 0)) (naD 1 0) = true := by decide +kernel
theorem naR_1_0_3 : yRun naI (naC 1 3) [] naQ 0 8000 2 (az_yl 95 9 (fun _ _ _ _ _ _ => false) (naE 1 0)) (naD 1 0) = true := by decide +kernel
theorem naR_1_0_4 : yRun naI (naC 1 4) [] naQ 0 8000 2 (az_yl 95 9 (fun _ _ _ _ _ _ => false) (naE 1 0)) (naD 1 0) = true := by decide +kernel
theorem naR_1_0_5 : yRun naI (naC 1 5) [] naQ 0 8000 2 (az_yl 95 9 (fun _ _ _ _ _ _ => false) (naE 1 0)) (naD 1 0) = true := by decide +kernel
theorem naR_1_0_6 : yRun naI (naC 1 6) [] naQ 0 8000 2 (az_yl 95 9 (fun _ _ _ _ _ _ => false) (naE 1 0)) (naD 1 0) = true := by decide +kernel
theorem naR_1_0_7 : yRun naI (naC 1 7) [] naQ 0 8000 2 (az_yl 95 9 (fun _ _ _ _ _ _ => false) (naE 1 0)) (naD 1 0) = true := by decide +kernel
theorem naR_1_0_8 : yRun naI (naC 1 8) [] naQ 0 8000 2 (az_yl 95 9 (fun _ _ _ _ _ _ => false) (naE 1 0)) (naD 1 0) = true := by decide +kernel
theorem naR_1_0_9 : yRun naI (naC 1 9) [] naQ 0 8000 2 (az_yl 95 9 (fun _ _ _ _ _ _ => false) (naE 1 0)) (naD 1 0) = true := by decide +kernel
