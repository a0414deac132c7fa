/-! runs of sign -/
theorem lsR_54 : yRun a3Inl (lsC 54) [] lsQ 25 3000 3 (az_yl 0 40 (lsH 54) (fun _ _ _ _ _ => false)) az_rkn = true := by decide +kernel
theorem lsR_55 : yRun a3Inl (lsC 55) [] lsQ 25 3000 3 (az_yl 0 40 (lsH 55) (fun _ _ _ _ _ => false)) az_rkn = true := by decide +kernel
theorem lsR_56 : yRun a3Inl (lsC 56) [] lsQ 25 3000 3 (az_yl 0 40 (lsH 56) (fun _ _ _ _ _ => false)) az_rkn = true := by decide +kernel
theorem lsR_57 : yRun a3Inl (lsC 57) [] lsQ 25 3000 3 (az_yl 0 40 (lsH 57) (fun _ _ _ _ _ => false)) az_rkn = true := by decide +kernel
theorem lsR_58 : yRun a3Inl (lsC 58) [] lsQ 25 3000 3 (az_yl 0 40 (lsH 58) (fun _ _ _ _ _ => false)) az_rkn = true := by decide +kernel
theorem lsR_59 : yRun a3Inl (lsC 59) [] lsQ 25 3000 3 (az_yl 0 40 (lsH 59) (fun _ _ _ _ _ => false)) az_rkn = true := by decide +kernel
theorem lsR_60 : yRun a3Inl (lsC 60) [] lsQ 25 3000 3 (az_yl 0 40 (lsH 60) (fun _ _ _ _ _ => false)) az_rkn = true := by decide +kernel
theorem lsR_61 : yRun a3Inl (lsC 61) [] lsQ 25 3000 3 (az_yl 0 40 (lsH 61) (fun _ _ _ _ _ => false)) az_rkn = true := by decide +kernel
theorem lsR_62 : yRun a3Inl (lsC 62) [] lsQ 25 3000 3 (az_yl 0 40 (lsH 62) (fun _ _ _ _ _ => false)) az_rkn = true := by decide +kernel
