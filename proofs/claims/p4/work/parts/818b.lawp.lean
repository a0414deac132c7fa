/-! runs of sign -/
theorem lsR_0 : yRun a3Inl (lsC 0) [] lsQ 25 3000 3 (az_yl 0 40 (lsH 0) (fun _ _ _ _ _ => false)) az_rkn = true := by decide +kernel
theorem lsR_1 : yRun a3Inl (lsC 1) [] lsQ 25 3000 3 (az_yl 0 40 (lsH 1) (fun _ _ _ _ _ => false)) az_rkn = true := by decide +kernel
theorem lsR_2 : yRun a3Inl (lsC 2) [] lsQ 25 3000 3 (az_yl 0 40 (lsH 2) (fun _ _ _ _ _ => false)) az_rkn = true := by decide +kernel
theorem lsR_3 : yRun a3Inl (lsC 3) [] lsQ 25 3000 3 (az_yl 0 40 (lsH 3) (fun _ _ _ _ _ => false)) az_rkn = true := by decide +kernel
theorem lsR_4 : yRun a3Inl (lsC 4) [] lsQ 25 3000 3 (az_yl 0 40 (lsH 4) (fun _ _ _ _ _ => false)) az_rkn = true := by decide +kernel
theorem lsR_5 : yRun a3Inl (lsC 5) [] lsQ 25 3000 3 (az_yl 0 40 (lsH 5) (fun _ _ _ _ _ => false)) az_rkn = true := by decide +kernel
theorem lsR_6 : yRun a3Inl (lsC 6) [] lsQ 25 3000 3 (az_yl 0 40 (lsH 6) (fun _ _ _ _ _ => false)) az_rkn = true := by decide +kernel
theorem lsR_7 : yRun a3Inl (lsC 7) [] lsQ 25 3000 3 (az_yl 0 40 (lsH 7) (fun _ _ _ _ _ => false)) az_rkn = true := by decide +kernel
theorem lsR_8 : yRun a3Inl (lsC 8) [] lsQ 25 3000 3 (az_yl 0 40 (lsH 8) (fun _ _ _ _ _ => false)) az_rkn = true := by decide +kernel
