/-! contracts: written by wip/A/gen56.py -/
def ak_g176_4 : List azHd := []
theorem ak_e176_4 : az_ex szP az_inl ak_k176.2.1 ak_t176 ak_k176.2.2.2.2.1 (fun _ => az_pre 96 [(68, 141, 2)]) (az_hint ak_t176) (az_leaf ak_k176 ak_g176_4 (some ak_d176_4.2.2.1) (az_hb 0) (az_rb 0)) 351040 ak_d176_4.2.1.1 ak_d176_4.2.1.2.1 ak_d176_4.2.1.2.2.1 (az_hc ak_k176 (4, 12, (0, 0, 0), szc_96) ak_d176_4) = true := by decide +kernel
def ak_g176_5 : List azHd := []
theorem ak_e176_5 : az_ex szP az_inl ak_k176.2.1 ak_t176 ak_k176.2.2.2.2.1 (fun _ => az_pre 96 [(68, 141, 2)]) (az_hint ak_t176) (az_leaf ak_k176 ak_g176_5 (some ak_d176_5.2.2.1) (az_hb 0) (az_rb 0)) 351040 ak_d176_5.2.1.1 ak_d176_5.2.1.2.1 ak_d176_5.2.1.2.2.1 (az_hc ak_k176 (4, 12, (0, 0, 0), szc_96) ak_d176_5) = true := by decide +kernel
def ak_g176_6 : List azHd := []
theorem ak_e176_6 : az_ex szP az_inl ak_k176.2.1 ak_t176 ak_k176.2.2.2.2.1 (fun _ => az_pre 96 [(68, 141, 2)]) (az_hint ak_t176) (az_leaf ak_k176 ak_g176_6 (some ak_d176_6.2.2.1) (az_hb 0) (az_rb 0)) 351040 ak_d176_6.2.1.1 ak_d176_6.2.1.2.1 ak_d176_6.2.1.2.2.1 (az_hc ak_k176 (4, 12, (0, 0, 0), szc_96) ak_d176_6) = true := by decide +kernel
def ak_g176_7 : List azHd := []
theorem ak_e176_7 : az_ex szP az_inl ak_k176.2.1 ak_t176 ak_k176.2.2.2.2.1 (fun _ => az_pre 96 [(68, 141, 2)]) (az_hint ak_t176) (az_leaf ak_k176 ak_g176_7 (some ak_d176_7.2.2.1) (az_hb 0) (az_rb 0)) 351040 ak_d176_7.2.1.1 ak_d176_7.2.1.2.1 ak_d176_7.2.1.2.2.1 (az_hc ak_k176 (4, 12, (0, 0, 0), szc_96) ak_d176_7) = true := by decide +kernel
