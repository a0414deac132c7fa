/-! contracts: written by wip/A/gen56.py -/
def ak_g190_40 : List azHd := [ak_d190_49]
theorem ak_e190_40 : az_ex szP az_inl ak_k190.2.1 ak_t190 ak_k190.2.2.2.2.1 (fun _ => az_pre 118 []) (az_hint ak_t190) (az_leaf ak_k190 ak_g190_40 (some ak_d190_40.2.2.1) (az_hb 1) (az_rb 1)) 405160 ak_d190_40.2.1.1 ak_d190_40.2.1.2.1 ak_d190_40.2.1.2.2.1 (az_hc ak_k190 (2, 12, (0, 0, 0), szc_118) ak_d190_40) = true := by decide +kernel
def ak_g190_41 : List azHd := [ak_d190_50]
theorem ak_e190_41 : az_ex szP az_inl ak_k190.2.1 ak_t190 ak_k190.2.2.2.2.1 (fun _ => az_pre 118 []) (az_hint ak_t190) (az_leaf ak_k190 ak_g190_41 (some ak_d190_41.2.2.1) (az_hb 1) (az_rb 1)) 405160 ak_d190_41.2.1.1 ak_d190_41.2.1.2.1 ak_d190_41.2.1.2.2.1 (az_hc ak_k190 (2, 12, (0, 0, 0), szc_118) ak_d190_41) = true := by decide +kernel
def ak_g190_42 : List azHd := [ak_d190_51]
theorem ak_e190_42 : az_ex szP az_inl ak_k190.2.1 ak_t190 ak_k190.2.2.2.2.1 (fun _ => az_pre 118 []) (az_hint ak_t190) (az_leaf ak_k190 ak_g190_42 (some ak_d190_42.2.2.1) (az_hb 1) (az_rb 1)) 405160 ak_d190_42.2.1.1 ak_d190_42.2.1.2.1 ak_d190_42.2.1.2.2.1 (az_hc ak_k190 (2, 12, (0, 0, 0), szc_118) ak_d190_42) = true := by decide +kernel
def ak_g190_43 : List azHd := [ak_d190_52]
theorem ak_e190_43 : az_ex szP az_inl ak_k190.2.1 ak_t190 ak_k190.2.2.2.2.1 (fun _ => az_pre 118 []) (az_hint ak_t190) (az_leaf ak_k190 ak_g190_43 (some ak_d190_43.2.2.1) (az_hb 1) (az_rb 1)) 405160 ak_d190_43.2.1.1 ak_d190_43.2.1.2.1 ak_d190_43.2.1.2.2.1 (az_hc ak_k190 (2, 12, (0, 0, 0), szc_118) ak_d190_43) = true := by decide +kernel
def ak_g190_44 : List azHd := [ak_d190_53]
theorem ak_e190_44 : az_ex szP az_inl ak_k190.2.1 ak_t190 ak_k190.2.2.2.2.1 (fun _ => az_pre 118 []) (az_hint ak_t190) (az_leaf ak_k190 ak_g190_44 (some ak_d190_44.2.2.1) (az_hb 1) (az_rb 1)) 405160 ak_d190_44.2.1.1 ak_d190_44.2.1.2.1 ak_d190_44.2.1.2.2.1 (az_hc ak_k190 (2, 12, (0, 0, 0), szc_118) ak_d190_44) = true := by decide +kernel
def ak_g190_45 : List azHd := [ak_d190_54]
theorem ak_e190_45 : az_ex szP az_inl ak_k190.2.1 ak_t190 ak_k190.2.2.2.2.1 (fun _ => az_pre 118 []) (az_hint ak_t190) (az_leaf ak_k190 ak_g190_45 (some ak_d190_45.2.2.1) (az_hb 1) (az_rb 1)) 405160 ak_d190_45.2.1.1 ak_d190_45.2.1.2.1 ak_d190_45.2.1.2.2.1 (az_hc ak_k190 (2, 12, (0, 0, 0), szc_118) ak_d190_45) = true := by decide +kernel
def ak_g190_46 : List azHd := [ak_d190_55]
theorem ak_e190_46 : az_ex szP az_inl ak_k190.2.1 ak_t190 ak_k190.2.2.2.2.1 (fun _ => az_pre 118 []) (az_hint ak_t190) (az_leaf ak_k190 ak_g190_46 (some ak_d190_46.2.2.1) (az_hb 1) (az_rb 1)) 405160 ak_d190_46.2.1.1 ak_d190_46.2.1.2.1 ak_d190_46.2.1.2.2.1 (az_hc ak_k190 (2, 12, (0, 0, 0), szc_118) ak_d190_46) = true := by decide +kernel
def ak_g190_47 : List azHd := [ak_d190_56]
theorem ak_e190_47 : az_ex szP az_inl ak_k190.2.1 ak_t190 ak_k190.2.2.2.2.1 (fun _ => az_pre 118 []) (az_hint ak_t190) (az_leaf ak_k190 ak_g190_47 (some ak_d190_47.2.2.1) (az_hb 1) (az_rb 1)) 405160 ak_d190_47.2.1.1 ak_d190_47.2.1.2.1 ak_d190_47.2.1.2.2.1 (az_hc ak_k190 (2, 12, (0, 0, 0), szc_118) ak_d190_47) = true := by decide +kernel
def ak_g190_48 : List azHd := [ak_d190_57]
theorem ak_e190_48 : az_ex szP az_inl ak_k190.2.1 ak_t190 ak_k190.2.2.2.2.1 (fun _ => az_pre 118 []) (az_hint ak_t190) (az_leaf ak_k190 ak_g190_48 (some ak_d190_48.2.2.1) (az_hb 1) (az_rb 1)) 405160 ak_d190_48.2.1.1 ak_d190_48.2.1.2.1 ak_d190_48.2.1.2.2.1 (az_hc ak_k190 (2, 12, (0, 0, 0), szc_118) ak_d190_48) = true := by decide +kernel
def ak_g190_49 : List azHd := [ak_d190_58]
theorem ak_e190_49 : az_ex szP az_inl ak_k190.2.1 ak_t190 ak_k190.2.2.2.2.1 (fun _ => az_pre 118 []) (az_hint ak_t190) (az_leaf ak_k190 ak_g190_49 (some ak_d190_49.2.2.1) (az_hb 1) (az_rb 1)) 405160 ak_d190_49.2.1.1 ak_d190_49.2.1.2.1 ak_d190_49.2.1.2.2.1 (az_hc ak_k190 (2, 12, (0, 0, 0), szc_118) ak_d190_49) = true := by decide +kernel
def ak_g190_50 : List azHd := [ak_d190_59]
theorem ak_e190_50 : az_ex szP az_inl ak_k190.2.1 ak_t190 ak_k190.2.2.2.2.1 (fun _ => az_pre 118 []) (az_hint ak_t190) (az_leaf ak_k190 ak_g190_50 (some ak_d190_50.2.2.1) (az_hb 1) (az_rb 1)) 405160 ak_d190_50.2.1.1 ak_d190_50.2.1.2.1 ak_d190_50.2.1.2.2.1 (az_hc ak_k190 (2, 12, (0, 0, 0), szc_118) ak_d190_50) = true := by decide +kernel
def ak_g190_51 : List azHd := [ak_d190_60]
theorem ak_e190_51 : az_ex szP az_inl ak_k190.2.1 ak_t190 ak_k190.2.2.2.2.1 (fun _ => az_pre 118 []) (az_hint ak_t190) (az_leaf ak_k190 ak_g190_51 (some ak_d190_51.2.2.1) (az_hb 1) (az_rb 1)) 405160 ak_d190_51.2.1.1 ak_d190_51.2.1.2.1 ak_d190_51.2.1.2.2.1 (az_hc ak_k190 (2, 12, (0, 0, 0), szc_118) ak_d190_51) = true := by decide +kernel
def ak_g190_52 : List azHd := [ak_d190_61]
theorem ak_e190_52 : az_ex szP az_inl ak_k190.2.1 ak_t190 ak_k190.2.2.2.2.1 (fun _ => az_pre 118 []) (az_hint ak_t190) (az_leaf ak_k190 ak_g190_52 (some ak_d190_52.2.2.1) (az_hb 1) (az_rb 1)) 405160 ak_d190_52.2.1.1 ak_d190_52.2.1.2.1 ak_d190_52.2.1.2.2.1 (az_hc ak_k190 (2, 12, (0, 0, 0), szc_118) ak_d190_52) = true := by decide +kernel
def ak_g190_53 : List azHd := [ak_d190_62]
theorem ak_e190_53 : az_ex szP az_inl ak_k190.2.1 ak_t190 ak_k190.2.2.2.2.1 (fun _ => az_pre 118 []) (az_hint ak_t190) (az_leaf ak_k190 ak_g190_53 (some ak_d190_53.2.2.1) (az_hb 1) (az_rb 1)) 405160 ak_d190_53.2.1.1 ak_d190_53.2.1.2.1 ak_d190_53.2.1.2.2.1 (az_hc ak_k190 (2, 12, (0, 0, 0), szc_118) ak_d190_53) = true := by decide +kernel
def ak_g190_54 : List azHd := [ak_d190_63]
theorem ak_e190_54 : az_ex szP az_inl ak_k190.2.1 ak_t190 ak_k190.2.2.2.2.1 (fun _ => az_pre 118 []) (az_hint ak_t190) (az_leaf ak_k190 ak_g190_54 (some ak_d190_54.2.2.1) (az_hb 1) (az_rb 1)) 405160 ak_d190_54.2.1.1 ak_d190_54.2.1.2.1 ak_d190_54.2.1.2.2.1 (az_hc ak_k190 (2, 12, (0, 0, 0), szc_118) ak_d190_54) = true := by decide +kernel
def ak_g190_55 : List azHd := [ak_d190_64]
theorem ak_e190_55 : az_ex szP az_inl ak_k190.2.1 ak_t190 ak_k190.2.2.2.2.1 (fun _ => az_pre 118 []) (az_hint ak_t190) (az_leaf ak_k190 ak_g190_55 (some ak_d190_55.2.2.1) (az_hb 1) (az_rb 1)) 405160 ak_d190_55.2.1.1 ak_d190_55.2.1.2.1 ak_d190_55.2.1.2.2.1 (az_hc ak_k190 (2, 12, (0, 0, 0), szc_118) ak_d190_55) = true := by decide +kernel
def ak_g190_56 : List azHd := [ak_d190_65]
theorem ak_e190_56 : az_ex szP az_inl ak_k190.2.1 ak_t190 ak_k190.2.2.2.2.1 (fun _ => az_pre 118 []) (az_hint ak_t190) (az_leaf ak_k190 ak_g190_56 (some ak_d190_56.2.2.1) (az_hb 1) (az_rb 1)) 405160 ak_d190_56.2.1.1 ak_d190_56.2.1.2.1 ak_d190_56.2.1.2.2.1 (az_hc ak_k190 (2, 12, (0, 0, 0), szc_118) ak_d190_56) = true := by decide +kernel
def ak_g190_57 : List azHd := [ak_d190_66]
theorem ak_e190_57 : az_ex szP az_inl ak_k190.2.1 ak_t190 ak_k190.2.2.2.2.1 (fun _ => az_pre 118 []) (az_hint ak_t190) (az_leaf ak_k190 ak_g190_57 (some ak_d190_57.2.2.1) (az_hb 1) (az_rb 1)) 405160 ak_d190_57.2.1.1 ak_d190_57.2.1.2.1 ak_d190_57.2.1.2.2.1 (az_hc ak_k190 (2, 12, (0, 0, 0), szc_118) ak_d190_57) = true := by decide +kernel
def ak_g190_58 : List azHd := [ak_d190_67]
theorem ak_e190_58 : az_ex szP az_inl ak_k190.2.1 ak_t190 ak_k190.2.2.2.2.1 (fun _ => az_pre 118 []) (az_hint ak_t190) (az_leaf ak_k190 ak_g190_58 (some ak_d190_58.2.2.1) (az_hb 1) (az_rb 1)) 405160 ak_d190_58.2.1.1 ak_d190_58.2.1.2.1 ak_d190_58.2.1.2.2.1 (az_hc ak_k190 (2, 12, (0, 0, 0), szc_118) ak_d190_58) = true := by decide +kernel
def ak_g190_59 : List azHd := [ak_d190_68]
theorem ak_e190_59 : az_ex szP az_inl ak_k190.2.1 ak_t190 ak_k190.2.2.2.2.1 (fun _ => az_pre 118 []) (az_hint ak_t190) (az_leaf ak_k190 ak_g190_59 (some ak_d190_59.2.2.1) (az_hb 1) (az_rb 1)) 405160 ak_d190_59.2.1.1 ak_d190_59.2.1.2.1 ak_d190_59.2.1.2.2.1 (az_hc ak_k190 (2, 12, (0, 0, 0), szc_118) ak_d190_59) = true := by decide +kernel
def ak_g190_60 : List azHd := [ak_d190_69]
theorem ak_e190_60 : az_ex szP az_inl ak_k190.2.1 ak_t190 ak_k190.2.2.2.2.1 (fun _ => az_pre 118 []) (az_hint ak_t190) (az_leaf ak_k190 ak_g190_60 (some ak_d190_60.2.2.1) (az_hb 1) (az_rb 1)) 405160 ak_d190_60.2.1.1 ak_d190_60.2.1.2.1 ak_d190_60.2.1.2.2.1 (az_hc ak_k190 (2, 12, (0, 0, 0), szc_118) ak_d190_60) = true := by decide +kernel
