/-! runs of sign -/
theorem lsR_63 : yRun a3Inl (lsC 63) [] lsQ 25 3000 3 (az_yl 0 40 (lsH 63) (fun _ _ _ _ _ => false)) az_rkn = true := by decide +kernel
theorem lsR_64 : yRun a3Inl (lsC 64) [] lsQ 25 3000 3 (az_yl 0 40 (lsH 64) (fun _ _ _ _ _ => false)) az_rkn = true := by decide +kernel
theorem lsR_65 : yRun a3Inl (lsC 65) [] lsQ 25 3000 3 (az_yl 0 40 (lsH 65) (fun _ _ _ _ _ => false)) az_rkn = true := by decide +kernel
theorem lsR_66 : yRun a3Inl (lsC 66) [] lsQ 25 3000 3 (az_yl 0 40 (lsH 66) (fun _ _ _ _ _ => false)) az_rkn = true := by decide +kernel
theorem lsR_67 : yRun a3Inl (lsC 67) [] lsQ 25 3000 3 (az_yl 0 40 (lsH 67) (fun _ _ _ _ _ => false)) az_rkn = true := by decide +kernel
theorem lsR_68 : yRun a3Inl (lsC 68) [] lsQ 25 3000 3 (az_yl 0 40 (lsH 68) (fun _ _ _ _ _ => false)) az_rkn = true := by decide +kernel
theorem lsR_69 : yRun a3Inl (lsC 69) [] lsQ 25 3000 3 (az_yl 0 40 (lsH 69) (fun _ _ _ _ _ => false)) az_rkn = true := by decide +kernel
theorem lsR_70 : yRun a3Inl (lsC 70) [] lsQ 25 3000 3 (az_yl 0 40 (lsH 70) (fun _ _ _ _ _ => false)) az_rkn = true := by decide +kernel
theorem lsR_71 : yRun a3Inl (lsC 71) [] lsQ 25 3000 3 (az_yl 0 40 (lsH 71) (fun _ _ _ _ _ => false)) az_rkn = true := by decide +kernel
