/-! runs of sign -/
theorem lsR_45 : yRun a3Inl (lsC 45) [] lsQ 25 3000 3 (az_yl 0 40 (lsH 45) (fun _ _ _ _ _ => false)) az_rkn = true := by decide +kernel
theorem lsR_46 : yRun a3Inl (lsC 46) [] lsQ 25 3000 3 (az_yl 0 40 (lsH 46) (fun _ _ _ _ _ => false)) az_rkn = true := by decide +kernel
theorem lsR_47 : yRun a3Inl (lsC 47) [] lsQ 25 3000 3 (az_yl 0 40 (lsH 47) (fun _ _ _ _ _ => false)) az_rkn = true := by decide +kernel
theorem lsR_48 : yRun a3Inl (lsC 48) [] lsQ 25 3000 3 (az_yl 0 40 (lsH 48) (fun _ _ _ _ _ => false)) az_rkn = true := by decide +kernel
theorem lsR_49 : yRun a3Inl (lsC 49) [] lsQ 25 3000 3 (az_yl 0 40 (lsH 49) (fun _ _ _ _ _ => false)) az_rkn = true := by decide +kernel
theorem lsR_50 : yRun a3Inl (lsC 50) [] lsQ 25 3000 3 (az_yl 0 40 (lsH 50) (fun _ _ _ _ _ => false)) az_rkn = true := by decide +kernel
theorem lsR_51 : yRun a3Inl (lsC 51) [] lsQ 25 3000 3 (az_yl 0 40 (lsH 51) (fun _ _ _ _ _ => false)) az_rkn = true := by decide +kernel
theorem lsR_52 : yRun a3Inl (lsC 52) [] lsQ 25 3000 3 (az_yl 0 40 (lsH 52) (fun _ _ _ _ _ => false)) az_rkn = true := by decide +kernel
theorem lsR_53 : yRun a3Inl (lsC 53) [] lsQ 25 3000 3 (az_yl 0 40 (lsH 53) (fun _ _ _ _ _ => false)) az_rkn = true := by decide +kernel
