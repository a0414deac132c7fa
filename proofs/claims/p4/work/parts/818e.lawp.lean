/-! runs of sign -/
theorem lsR_27 : yRun a3Inl (lsC 27) [] lsQ 25 3000 3 (az_yl 0 40 (lsH 27) (fun _ _ _ _ _ => false)) az_rkn = true := by decide +kernel
theorem lsR_28 : yRun a3Inl (lsC 28) [] lsQ 25 3000 3 (az_yl 0 40 (lsH 28) (fun _ _ _ _ _ => false)) az_rkn = true := by decide +kernel
theorem lsR_29 : yRun a3Inl (lsC 29) [] lsQ 25 3000 3 (az_yl 0 40 (lsH 29) (fun _ _ _ _ _ => false)) az_rkn = true := by decide +kernel
theorem lsR_30 : yRun a3Inl (lsC 30) [] lsQ 25 3000 3 (az_yl 0 40 (lsH 30) (fun _ _ _ _ _ => false)) az_rkn = true := by decide +kernel
theorem lsR_31 : yRun a3Inl (lsC 31) [] lsQ 25 3000 3 (az_yl 0 40 (lsH 31) (fun _ _ _ _ _ => false)) az_rkn = true := by decide +kernel
theorem lsR_32 : yRun a3Inl (lsC 32) [] lsQ 25 3000 3 (az_yl 0 40 (lsH 32) (fun _ _ _ _ _ => false)) az_rkn = true := by decide +kernel
theorem lsR_33 : yRun a3Inl (lsC 33) [] lsQ 25 3000 3 (az_yl 0 40 (lsH 33) (fun _ _ _ _ _ => false)) az_rkn = true := by decide +kernel
theorem lsR_34 : yRun a3Inl (lsC 34) [] lsQ 25 3000 3 (az_yl 0 40 (lsH 34) (fun _ _ _ _ _ => false)) az_rkn = true := by decide +kernel
theorem lsR_35 : yRun a3Inl (lsC 35) [] lsQ 25 3000 3 (az_yl 0 40 (lsH 35) (fun _ _ _ _ _ => false)) az_rkn = true := by decide +kernel
