/-! runs of sign -/
theorem lsR_72 : yRun a3Inl (lsC 72) [] lsQ 25 3000 3 (az_yl 0 40 (lsH 72) (fun _ _ _ _ _ => false)) az_rkn = true := by decide +kernel
theorem lsR_73 : yRun a3Inl (lsC 73) [] lsQ 25 3000 3 (az_yl 0 40 (lsH 73) (fun _ _ _ _ _ => false)) az_rkn = true := by decide +kernel
theorem lsR_74 : yRun a3Inl (lsC 74) [] lsQ 25 3000 3 (az_yl 0 40 (lsH 74) (fun _ _ _ _ _ => false)) az_rkn = true := by decide +kernel
theorem lsR_75 : yRun a3Inl (lsC 75) [] lsQ 25 3000 3 (az_yl 0 40 (lsH 75) (fun _ _ _ _ _ => false)) az_rkn = true := by decide +kernel
theorem lsR_76 : yRun a3Inl (lsC 76) [] lsQ 25 3000 3 (az_yl 0 40 (lsH 76) (fun _ _ _ _ _ => false)) az_rkn = true := by decide +kernel
theorem lsR_77 : yRun a3Inl (lsC 77) [] lsQ 25 3000 3 (az_yl 0 40 (lsH 77) (fun _ _ _ _ _ => false)) az_rkn = true := by decide +kernel
theorem lsR_78 : yRun a3Inl (lsC 78) [] lsQ 25 3000 3 (az_yl 0 40 (lsH 78) (fun _ _ _ _ _ => false)) az_rkn = true := by decide +kernel
theorem lsR_79 : yRun a3Inl (lsC 79) [] lsQ 25 3000 3 (az_yl 0 40 (lsH 79) (fun _ _ _ _ _ => false)) az_rkn = true := by decide +kernel
theorem lsR_80 : yRun a3Inl (lsC 80) [] lsQ 25 3000 3 (az_yl 0 40 (lsH 80) (fun _ _ _ _ _ => false)) az_rkn = true := by decide +kernel
