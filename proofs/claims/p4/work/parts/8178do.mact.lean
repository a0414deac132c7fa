/-! runs of readAct -/
theorem naR_2_2_0 : yRun naI (naC 2 0) [] naQ 0 8000 2 (az_yl 95 9 (fun _ _ _ _ _ _ => false) (naE 2 2)) (naD 2 2) = true := by decide +kernel
theorem naR_2_2_1 : yRun naI (naC 2 1) [] naQ 0 8000 2 (az_yl 95 9 (fun _ _ _ _ _ _ => false) (naE 2 2)) (naD 2 2) = true := by decide +kernel
theorem naR_2_2_2 : yRun naI (naC 2 2) [] naQ 0 8000 2 (az_yl 95 9 (fun _ _ _ _ _ _ => false) (naE 2 2)) (naD 2 2) = true := by decide +kernel
theorem naR_2_2_3 : yRun naI (naC 2 3) [] naQ 0 8000 2 (az_yl 95 9 (fun _ _ _ _ _ _ => false) (naE 2 2)) (naD 2 2) = true := by decide +kernel
theorem naR_2_2_4 : yRun naI (naC 2 4) [] naQ 0 8000 2 (az_yl 95 9 (fun _ _ _ _ _ _ => false) (naE 2 2)) (naD 2 2) = true := by decide +kernel
