/-! runs of sign -/
theorem lsR_36 : yRun a3Inl (lsC 36) [] lsQ 25 3000 3 (az_yl 0 40 (lsH 36) (fun _ _ _ _ _ => false)) az_rkn = true := by decide +kernel
theorem lsR_37 : yRun a3Inl (lsC 37) [] lsQ 25 3000 3 (az_yl 0 40 (lsH 37) (fun _ _ _ _ _ => false)) az_rkn = true := by decide +kernel
theorem lsR_38 : yRun a3Inl (lsC 38) [] lsQ 25 3000 3 (az_yl 0 40 (lsH 38) (fun _ _ _ _ _ => false)) az_rkn = true := by decide +kernel
theorem lsR_39 : yRun a3Inl (lsC 39) [] lsQ 25 3000 3 (az_yl 0 40 (lsH 39) (fun _ _ _ _ _ => false)) az_rkn = true := by decide +kernel
theorem lsR_40 : yRun a3Inl (lsC 40) [] lsQ 25 3000 3 (az_yl 0 40 (lsH 40) (fun _ _ _ _ _ => false)) az_rkn = true := by decide +kernel
theorem lsR_41 : yRun a3Inl (lsC 41) [] lsQ 25 3000 3 (az_yl 0 40 (lsH 41) (fun _ _ _ _ _ => false)) az_rkn = true := by decide +kernel
theorem lsR_42 : yRun a3Inl (lsC 42) [] lsQ 25 3000 3 (az_yl 0 40 (lsH 42) (fun _ _ _ _ _ => false)) az_rkn = true := by decide +kernel
theorem lsR_43 : yRun a3Inl (lsC 43) [] lsQ 25 3000 3 (az_yl 0 40 (lsH 43) (fun _ _ _ _ _ => false)) az_rkn = true := by decide +kernel
theorem lsR_44 : yRun a3Inl (lsC 44) [] lsQ 25 3000 3 (az_yl 0 40 (lsH 44) (fun _ _ _ _ _ => false)) az_rkn = true := by decide +kernel
