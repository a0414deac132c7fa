/-! runs of readAct -/
theorem naR_4_0_0 : yRun naI (naC 4 0) [] naQ 0 8000 2 (az_yl 95 9 (fun _ _ _ _ _ _ => false) (naE 4 0)) (naD 4 0) = true := by decide +kernel
theorem naR_4_0_1 : yRun naI (naC 4 1) [] naQ 0 8000 2 (az_yl 95 9 (fun _ _ _ _ _ _ => false) (naE 4 0)) (naD 4 0) = true := by decide +kernel
theorem naR_4_0_2 : yRun naI (naC 4 2) [] naQ 0 8000 2 (az_yl 95 9 (fun _ _ _ _ _ _ => false) (naE 4 0)) (naD 4 0) = true := by decide +kernel
theorem naR_4_0_3 : yRun naI (naC 4 3) [] naQ 0 8000 2 (az_yl 95 9 (fun _ _ _ _ _ _ => false) (naE 4 0)) (naD 4 0) = true := by decide +kernel
theorem naR_4_0_4 : yRun naI (naC 4 4) [] naQ 0 8000 2 (az_yl 95 9 (fun _ _ _ _ _ _ => false) (naE 4 0)) (naD 4 0) = true := by decide +kernel
theorem naR_4_0_5 : yRun naI (naC 4 5) [] naQ 0 8000 2 (az_yl 95 9 (fun _ _ _ _ _ _ => false) (naE 4 0)) (naD 4 0) = true := by decide +kernel
theorem naR_4_0_6 : yRun naI (naC 4 6) [] naQ 0 8000 2 (az_yl 95 9 (fun _ _ _ _ _ _ => false) (naE 4 0)) (naD 4 0) = true := by decide +kernel
theorem naR_4_0_7 : yRun naI (naC 4 7) [] naQ 0 8000 2 (az_yl 95 9 (fun _ _ _ _ _ _ => false) (naE 4 0)) (naD 4 0) = true := by decide +kernel
theorem naR_4_0_8 : yRun naI (naC 4 8) [] naQ 0 8000 2 (az_yl 95 9 (fun _ _ _ _ _ _ => false) (naE 4 0)) (naD 4 0) = true := by decide +kernel
theorem naR_4_0_9 : yRun naI (naC 4 9) [] naQ 0 8000 2 (az_yl 95 9 (fun _ _ _ _ _ _ => false) (naE 4 0)) (naD 4 0) = true := by decide +kernel
