/-! runs of readAct -/
theorem naR_1_2_0 : yRun naI (naC 1 0) [] naQ 0 8000 2 (az_yl 95 9 (fun _ _ _ _ _ _ => false) (naE 1 2)) (naD 1 2) = true := by decide +kernel
theorem naR_1_2_1 : yRun naI (naC 1 1) [] naQ 0 8000 2 (az_yl 95 9 (fun _ _ _ _ _ _ => false) (naE 1 2)) (naD 1 2) = true := by decide +kernel
theorem naR_1_2_2 : yRun naI (naC 1 2) [] naQ 0 8000 2 (az_yl 95 9 (fun _ _ _ _ _ _ => false) (naE 1 2)) (naD 1 2) = true := by decide +kernel
theorem naR_1_2_3 : yRun naI (naC 1 3) [] naQ 0 8000 2 (az_yl 95 9 (fun _ _ _ _ _ _ => false) (naE 1 2)) (naD 1 2) = true := by decide +kernel
theorem naR_1_2_4 : yRun naI (naC 1 4) [] naQ 0 8000 2 (az_yl 95 9 (fun _ _ _ _ _ _ => false) (naE 1 2)) (naD 1 2) = true := by decide +kernel
