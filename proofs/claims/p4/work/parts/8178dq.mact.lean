/-! runs of readAct -/
theorem naR_3_0_0 : yRun naI (naC 3 0) [] naQ 0 8000 2 (az_yl 95 9 (fun _ _ _ _ _ _ => false) (naE 3 0)) (naD 3 0) = true := by decide +kernel
theorem naR_3_0_1 : yRun naI (naC 3 1) [] naQ 0 8000 2 (az_yl 95 9 (fun _ _ _ _ _ _ => false) (naE 3 0)) (naD 3 0) = true := by decide +kernel
theorem naR_3_0_2 : yRun naI (naC 3 2) [] naQ 0 8000 2 (az_yl 95 9 (fun _ _ _ _ _ _ => false) (naE 3 0)) (naD 3 0) = true := by decide +kernel
theorem naR_3_0_3 : yRun naI (naC 3 3) [] naQ 0 8000 2 (az_yl 95 9 (fun _ _ _ _ _ _ => false) (naE 3 0)) (naD 3 0) = true := by decide +kernel
theorem naR_3_0_4 : yRun naI (naC 3 4) [] naQ 0 8000 2 (az_yl 95 9 (fun _ _ _ _ _ _ => false) (naE 3 0)) (naD 3 0) = true := by decide +kernel
theorem naR_3_0_5 : yRun naI (naC 3 5) [] naQ 0 8000 2 (az_yl 95 9 (fun _ _ _ _ _ _ => false) (naE 3 0)) (naD 3 0) = true := by decide +kernel
theorem naR_3_0_6 : yRun naI (naC 3 6) [] naQ 0 8000 2 (az_yl 95 9 (fun _ _ _ _ _ _ => false) (naE 3 0)) (naD 3 0) = true := by decide +kernel
theorem naR_3_0_7 : yRun naI (naC 3 7) [] naQ 0 8000 2 (az_yl 95 9 (fun _ _ _ _ _ _ => false) (naE 3 0)) (naD 3 0) = true := by decide +kernel
theorem naR_3_0_8 : yRun naI (naC 3 8) [] naQ 0 8000 2 (az_yl 95 9 (fun _ _ _ _ _ _ => false) (naE 3 0)) (naD 3 0) = true := by decide +kernel
theorem naR_3_0_9 : yRun naI (naC 3 9) [] naQ 0 8000 2 (az_yl 95 9 (fun _ _ _ _ _ _ => false) (naE 3 0)) (naD 3 0) = true := by decide +kernel
