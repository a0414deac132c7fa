/-! runs of sign -/
theorem lsR_18 : yRun a3Inl (lsC 18) [] lsQ 25 3000 3 (az_yl 0 40 (lsH 18) (fun _ _ _ _ _ => false)) az_rkn = true := by decide +kernel
theorem lsR_19 : yRun a3Inl (lsC 19) [] lsQ 25 3000 3 (az_yl 0 40 (lsH 19) (fun _ _ _ _ _ => false)) az_rkn = true := by decide +kernel
theorem lsR_20 : yRun a3Inl (lsC 20) [] lsQ 25 3000 3 (az_yl 0 40 (lsH 20) (fun _ _ _ _ _ => false)) az_rkn = true := by decide +kernel
theorem lsR_21 : yRun a3Inl (lsC 21) [] lsQ 25 3000 3 (az_yl 0 40 (lsH 21) (fun _ _ _ _ _ => false)) az_rkn = true := by decide +kernel
theorem lsR_22 : yRun a3Inl (lsC 22) [] lsQ 25 3000 3 (az_yl 0 40 (lsH 22) (fun _ _ _ _ _ => false)) az_rkn = true := by decide +kernel
theorem lsR_23 : yRun a3Inl (lsC 23) [] lsQ 25 3000 3 (az_yl 0 40 (lsH 23) (fun _ _ _ _ _ => false)) az_rkn = true := by decide +kernel
theorem lsR_24 : yRun a3Inl (lsC 24) [] lsQ 25 3000 3 (az_yl 0 40 (lsH 24) (fun _ _ _ _ _ => false)) az_rkn = true := by decide +kernel
theorem lsR_25 : yRun a3Inl (lsC 25) [] lsQ 25 3000 3 (az_yl 0 40 (lsH 25) (fun _ _ _ _ _ => false)) az_rkn = true := by decide +kernel
theorem lsR_26 : yRun a3Inl (lsC 26) [] lsQ 25 3000 3 (az_yl 0 40 (lsH 26) (fun _ _ _ _ _ => false)) az_rkn = true := by decide +kernel
