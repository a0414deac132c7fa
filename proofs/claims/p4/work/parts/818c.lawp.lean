/-! runs of sign -/
theorem lsR_9 : yRun a3Inl (lsC 9) [] lsQ 25 3000 3 (az_yl 0 40 (lsH 9) (fun _ _ _ _ _ => false)) az_rkn = true := by decide +kernel
theorem lsR_10 : yRun a3Inl (lsC 10) [] lsQ 25 3000 3 (az_yl 0 40 (lsH 10) (fun _ _ _ _ _ => false)) az_rkn = true := by decide +kernel
theorem lsR_11 : yRun a3Inl (lsC 11) [] lsQ 25 3000 3 (az_yl 0 40 (lsH 11) (fun _ _ _ _ _ => false)) az_rkn = true := by decide +kernel
theorem lsR_12 : yRun a3Inl (lsC 12) [] lsQ 25 3000 3 (az_yl 0 40 (lsH 12) (fun _ _ _ _ _ => false)) az_rkn = true := by decide +kernel
theorem lsR_13 : yRun a3Inl (lsC 13) [] lsQ 25 3000 3 (az_yl 0 40 (lsH 13) (fun _ _ _ _ _ => false)) az_rkn = true := by decide +kernel
theorem lsR_14 : yRun a3Inl (lsC 14) [] lsQ 25 3000 3 (az_yl 0 40 (lsH 14) (fun _ _ _ _ _ => false)) az_rkn = true := by decide +kernel
theorem lsR_15 : yRun a3Inl (lsC 15) [] lsQ 25 3000 3 (az_yl 0 40 (lsH 15) (fun _ _ _ _ _ => false)) az_rkn = true := by decide +kernel
theorem lsR_16 : yRun a3Inl (lsC 16) [] lsQ 25 3000 3 (az_yl 0 40 (lsH 16) (fun _ _ _ _ _ => false)) az_rkn = true := by decide +kernel
theorem lsR_17 : yRun a3Inl (lsC 17) [] lsQ 25 3000 3 (az_yl 0 40 (lsH 17) (fun _ _ _ _ _ => false)) az_rkn = true := by decide +kernel
