/-! runs of readAct -/
theorem naR_0_0_0 : yRun naI (naC 0 0) [] naQ 0 8000 2 (az_yl 95 9 (fun _ _ _ _ _ _ => false) (naE 0 0)) (naD 0 0) = true := by decide +kernel
theorem naR_0_0_1 : yRun naI (naC 0 1) [] naQ 0 8000 2 (az_yl 95 9 (fun _ _ _ _ _ _ => false) (naE 0 0)) (naD 0 0) = true := by decide +kernel
theorem naR_0_0_2 : yRun naI (naC 0 2) [] naQ 0 8000 2 (az_yl 95 9 (fun _ _ _ _ _ _ => false) (naE 0 0)) (naD 0 0) = true := by decide +kernel
theorem naR_0_0_3 : yRun naI (naC 0 3) [] naQ 0 8000 2 (az_yl 95 9 (fun _ _ _ _ _ _ => false) (naE 0 0)) (naD 0 0) = true := by decide +kernel
theorem naR_0_0_4 : yRun naI (naC 0 4) [] naQ 0 8000 2 (az_yl 95 9 (fun _ _ _ _ _ _ => false) (naE 0 0)) (naD 0 0) = true := by decide +kernel
theorem naR_0_0_5 : yRun naI (naC 0 5) [] naQ 0 8000 2 (az_yl 95 9 (fun _ _ _ _ _ _ => false) (naE 0 0)) (naD 0 0) = true := by decide +kernel
theorem naR_0_0_6 : yRun naI (naC 0 6) [] naQ 0 8000 2 (az_yl 95 9 (fun _ _ _ _ _ _ => false) (naE 0 0)) (naD 0 0) = true := by decide +kernel
theorem naR_0_0_7 : yRun naI (naC 0 7) [] naQ 0 8000 2 (az_yl 95 9 (fun _ _ _ _ _ _ => false) (naE 0 0)) (naD 0 0) = true := by decide +kernel
theorem naR_0_0_8 : yRun naI (naC 0 8) [] naQ 0 8000 2 (az_yl 95 9 (fun _ _ _ _ _ _ => false) (naE 0 0)) (naD 0 0) = true := by decide +kernel
theorem naR_0_0_9 : yRun naI (naC 0 9) [] naQ 0 8000 2 (az_yl 95 9 (fun _ _ _ _ _ _ => false) (naE 0 0)) (naD 0 0) = true := by decide +kernel
