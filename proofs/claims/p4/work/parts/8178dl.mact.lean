/-! runs of readAct -/
theorem naR_2_0_0 : yRun naI (naC 2 0) [] naQ 0 8000 2 (az_yl 95 9 (fun _ _ _ _ _ _ => false) (naE 2 0)) (naD 2 0) = true := by decide +kernel
theorem naR_2_0_1 : yRun naI (naC 2 1) [] naQ 0 8000 2 (az_yl 95 9 (fun _ _ _ _ _ _ => false) (naE 2 0)) (naD 2 0) = true := by decide +kernel
theorem naR_2_0_2 : yRun naI (naC 2 2) [] naQ 0 8000 2 (az_yl 95 9 (fun _ _ _ _ _ _ => false) (naE 2 0)) (naD 2 0) = true := by decide +kernel
theorem naR_2_0_3 : yRun naI (naC 2 3) [] naQ 0 8000 2 (az_yl 95 9 (fun _ _ _ _ _ _ => false) (naE 2 0)) (naD 2 0) = true := by decide +kernel
theorem naR_2_0_4 : yRun naI (naC 2 4) [] naQ 0 8000 2 (az_yl 95 9 (fun _ _ _ _ _ _ => false) (naE 2 0)) (naD 2 0) = true := by decide +kernel
theorem naR_2_0_5 : yRun naI (naC 2 5) [] naQ 0 8000 2 (az_yl 95 9 (fun _ _ _ _ _ _ => false) (naE 2 0)) (naD 2 0) = true := by decide +kernel
theorem naR_2_0_6 : yRun naI (naC 2 6) [] naQ 0 8000 2 (az_yl 95 9 (fun _ _ _ _ _ _ => false) (naE 2 0)) (naD 2 0) = true := by decide +kernel
theorem naR_2_0_7 : yRun naI (naC 2 7) [] naQ 0 8000 2 (az_yl 95 9 (fun _ _ _ _ _ _ => false) (naE 2 0)) (naD 2 0) = true := by decide +kernel
theorem naR_2_0_8 : yRun naI (naC 2 8) [] naQ 0 8000 2 (az_yl 95 9 (fun _ _ _ _ _ _ => false) (naE 2 0)) (naD 2 0) = true := by decide +kernel
theorem naR_2_0_9 : yRun naI (naC 2 9) [] naQ 0 8000 2 (az_yl 95 9 (fun _ _ _ _ _ _ => false) (naE 2 0)) (naD 2 0) = true := by decide +kernel
