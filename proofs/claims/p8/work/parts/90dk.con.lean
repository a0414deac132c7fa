/-! contracts: written by wip/A/gen56.py -/
def ak_g190_61 : List azHd := [ak_d190_70]
theorem ak_e190_61 : az_ex szP az_inl ak_k190.2.1 ak_t190 ak_k190.2.2.2.2.1 (fun _ => az_pre 118 []) (az_hint ak_t190) (az_leaf ak_k190 ak_g190_61 (some ak_d190_61.2.2.1) (az_hb 1) (az_rb 1)) 405160 ak_d190_61.2.1.1 ak_d190_61.2.1.2.1 ak_d190_61.2.1.2.2.1 (az_hc ak_k190 (2, 12, (0, 0, 0), szc_118) ak_d190_61) = true := by decide +kernel
def ak_g190_62 : List azHd := [ak_d190_71]
theorem ak_e190_62 : az_ex szP az_inl ak_k190.2.1 ak_t190 ak_k190.2.2.2.2.1 (fun _ => az_pre 118 []) (az_hint ak_t190) (az_leaf ak_k190 ak_g190_62 (some ak_d190_62.2.2.1) (az_hb 1) (az_rb 1)) 405160 ak_d190_62.2.1.1 ak_d190_62.2.1.2.1 ak_d190_62.2.1.2.2.1 (az_hc ak_k190 (2, 12, (0, 0, 0), szc_118) ak_d190_62) = true := by decide +kernel
def ak_g190_63 : List azHd := [ak_d190_72]
theorem ak_e190_63 : az_ex szP az_inl ak_k190.2.1 ak_t190 ak_k190.2.2.2.2.1 (fun _ => az_pre 118 []) (az_hint ak_t190) (az_leaf ak_k190 ak_g190_63 (some ak_d190_63.2.2.1) (az_hb 1) (az_rb 1)) 405160 ak_d190_63.2.1.1 ak_d190_63.2.1.2.1 ak_d190_63.2.1.2.2.1 (az_hc ak_k190 (2, 12, (0, 0, 0), szc_118) ak_d190_63) = true := by decide +kernel
def ak_g190_64 : List azHd := [ak_d190_73]
theorem ak_e190_64 : az_ex szP az_inl ak_k190.2.1 ak_t190 ak_k190.2.2.2.2.1 (fun _ => az_pre 118 []) (az_hint ak_t190) (az_leaf ak_k190 ak_g190_64 (some ak_d190_64.2.2.1) (az_hb 1) (az_rb 1)) 405160 ak_d190_64.2.1.1 ak_d190_64.2.1.2.1 ak_d190_64.2.1.2.2.1 (az_hc ak_k190 (2, 12, (0, 0, 0), szc_118) ak_d190_64) = true := by decide +kernel
def ak_g190_65 : List azHd := [ak_d190_74]
theorem ak_e190_65 : az_ex szP az_inl ak_k190.2.1 ak_t190 ak_k190.2.2.2.2.1 (fun _ => az_pre 118 []) (az_hint ak_t190) (az_leaf ak_k190 ak_g190_65 (some ak_d190_65.2.2.1) (az_hb 1) (az_rb 1)) 405160 ak_d190_65.2.1.1 ak_d190_65.2.1.2.1 ak_d190_65.2.1.2.2.1 (az_hc ak_k190 (2, 12, (0, 0, 0), szc_118) ak_d190_65) = true := by decide +kernel
def ak_g190_66 : List azHd := [ak_d190_75]
theorem ak_e190_66 : az_ex szP az_inl ak_k190.2.1 ak_t190 ak_k190.2.2.2.2.1 (fun _ => az_pre 118 []) (az_hint ak_t190) (az_leaf ak_k190 ak_g190_66 (some ak_d190_66.2.2.1) (az_hb 1) (az_rb 1)) 405160 ak_d190_66.2.1.1 ak_d190_66.2.1.2.1 ak_d190_66.2.1.2.2.1 (az_hc ak_k190 (2, 12, (0, 0, 0), szc_118) ak_d190_66) = true := by decide +kernel
def ak_g190_67 : List azHd := [ak_d190_76]
theorem ak_e190_67 : az_ex szP az_inl ak_k190.2.1 ak_t190 ak_k190.2.2.2.2.1 (fun _ => az_pre 118 []) (az_hint ak_t190) (az_leaf ak_k190 ak_g190_67 (some ak_d190_67.2.2.1) (az_hb 1) (az_rb 1)) 405160 ak_d190_67.2.1.1 ak_d190_67.2.1.2.1 ak_d190_67.2.1.2.2.1 (az_hc ak_k190 (2, 12, (0, 0, 0), szc_118) ak_d190_67) = true := by decide +kernel
def ak_g190_68 : List azHd := [ak_d190_77]
theorem ak_e190_68 : az_ex szP az_inl ak_k190.2.1 ak_t190 ak_k190.2.2.2.2.1 (fun _ => az_pre 118 []) (az_hint ak_t190) (az_leaf ak_k190 ak_g190_68 (some ak_d190_68.2.2.1) (az_hb 1) (az_rb 1)) 405160 ak_d190_68.2.1.1 ak_d190_68.2.1.2.1 ak_d190_68.2.1.2.2.1 (az_hc ak_k190 (2, 12, (0, 0, 0), szc_118) ak_d190_68) = true := by decide +kernel
def ak_g190_69 : List azHd := [ak_d190_78]
theorem ak_e190_69 : az_ex szP az_inl ak_k190.2.1 ak_t190 ak_k190.2.2.2.2.1 (fun _ => az_pre 118 []) (az_hint ak_t190) (az_leaf ak_k190 ak_g190_69 (some ak_d190_69.2.2.1) (az_hb 1) (az_rb 1)) 405160 ak_d190_69.2.1.1 ak_d190_69.2.1.2.1 ak_d190_69.2.1.2.2.1 (az_hc ak_k190 (2, 12, (0, 0, 0), szc_118) ak_d190_69) = true := by decide +kernel
def ak_g190_70 : List azHd := [ak_d190_79]
theorem ak_e190_70 : az_ex szP az_inl ak_k190.2.1 ak_t190 ak_k190.2.2.2.2.1 (fun _ => az_pre 118 []) (az_hint ak_t190) (az_leaf ak_k190 ak_g190_70 (some ak_d190_70.2.2.1) (az_hb 1) (az_rb 1)) 405160 ak_d190_70.2.1.1 ak_d190_70.2.1.2.1 ak_d190_70.2.1.2.2.1 (az_hc ak_k190 (2, 12, (0, 0, 0), szc_118) ak_d190_70) = true := by decide +kernel
def ak_g190_71 : List azHd := [ak_d190_80]
theorem ak_e190_71 : az_ex szP az_inl ak_k190.2.1 ak_t190 ak_k190.2.2.2.2.1 (fun _ => az_pre 118 []) (az_hint ak_t190) (az_leaf ak_k190 ak_g190_71 (some ak_d190_71.2.2.1) (az_hb 1) (az_rb 1)) 405160 ak_d190_71.2.1.1 ak_d190_71.2.1.2.1 ak_d190_71.2.1.2.2.1 (az_hc ak_k190 (2, 12, (0, 0, 0), szc_118) ak_d190_71) = true := by decide +kernel
def ak_g190_72 : List azHd := [ak_d190_81]
theorem ak_e190_72 : az_ex szP az_inl ak_k190.2.1 ak_t190 ak_k190.2.2.2.2.1 (fun _ => az_pre 118 []) (az_hint ak_t190) (az_leaf ak_k190 ak_g190_72 (some ak_d190_72.2.2.1) (az_hb 1) (az_rb 1)) 405160 ak_d190_72.2.1.1 ak_d190_72.2.1.2.1 ak_d190_72.2.1.2.2.1 (az_hc ak_k190 (2, 12, (0, 0, 0), szc_118) ak_d190_72) = true := by decide +kernel
def ak_g190_73 : List azHd := [ak_d190_82]
theorem ak_e190_73 : az_ex szP az_inl ak_k190.2.1 ak_t190 ak_k190.2.2.2.2.1 (fun _ => az_pre 118 []) (az_hint ak_t190) (az_leaf ak_k190 ak_g190_73 (some ak_d190_73.2.2.1) (az_hb 1) (az_rb 1)) 405160 ak_d190_73.2.1.1 ak_d190_73.2.1.2.1 ak_d190_73.2.1.2.2.1 (az_hc ak_k190 (2, 12, (0, 0, 0), szc_118) ak_d190_73) = true := by decide +kernel
def ak_g190_74 : List azHd := [ak_d190_83]
theorem ak_e190_74 : az_ex szP az_inl ak_k190.2.1 ak_t190 ak_k190.2.2.2.2.1 (fun _ => az_pre 118 []) (az_hint ak_t190) (az_leaf ak_k190 ak_g190_74 (some ak_d190_74.2.2.1) (az_hb 1) (az_rb 1)) 405160 ak_d190_74.2.1.1 ak_d190_74.2.1.2.1 ak_d190_74.2.1.2.2.1 (az_hc ak_k190 (2, 12, (0, 0, 0), szc_118) ak_d190_74) = true := by decide +kernel
def ak_g190_75 : List azHd := [ak_d190_84]
theorem ak_e190_75 : az_ex szP az_inl ak_k190.2.1 ak_t190 ak_k190.2.2.2.2.1 (fun _ => az_pre 118 []) (az_hint ak_t190) (az_leaf ak_k190 ak_g190_75 (some ak_d190_75.2.2.1) (az_hb 1) (az_rb 1)) 405160 ak_d190_75.2.1.1 ak_d190_75.2.1.2.1 ak_d190_75.2.1.2.2.1 (az_hc ak_k190 (2, 12, (0, 0, 0), szc_118) ak_d190_75) = true := by decide +kernel
def ak_g190_76 : List azHd := [ak_d190_85]
theorem ak_e190_76 : az_ex szP az_inl ak_k190.2.1 ak_t190 ak_k190.2.2.2.2.1 (fun _ => az_pre 118 []) (az_hint ak_t190) (az_leaf ak_k190 ak_g190_76 (some ak_d190_76.2.2.1) (az_hb 1) (az_rb 1)) 405160 ak_d190_76.2.1.1 ak_d190_76.2.1.2.1 ak_d190_76.2.1.2.2.1 (az_hc ak_k190 (2, 12, (0, 0, 0), szc_118) ak_d190_76) = true := by decide +kernel
def ak_g190_77 : List azHd := [ak_d190_86]
theorem ak_e190_77 : az_ex szP az_inl ak_k190.2.1 ak_t190 ak_k190.2.2.2.2.1 (fun _ => az_pre 118 []) (az_hint ak_t190) (az_leaf ak_k190 ak_g190_77 (some ak_d190_77.2.2.1) (az_hb 1) (az_rb 1)) 405160 ak_d190_77.2.1.1 ak_d190_77.2.1.2.1 ak_d190_77.2.1.2.2.1 (az_hc ak_k190 (2, 12, (0, 0, 0), szc_118) ak_d190_77) = true := by decide +kernel
def ak_g190_78 : List azHd := [ak_d190_87]
theorem ak_e190_78 : az_ex szP az_inl ak_k190.2.1 ak_t190 ak_k190.2.2.2.2.1 (fun _ => az_pre 118 []) (az_hint ak_t190) (az_leaf ak_k190 ak_g190_78 (some ak_d190_78.2.2.1) (az_hb 1) (az_rb 1)) 405160 ak_d190_78.2.1.1 ak_d190_78.2.1.2.1 ak_d190_78.2.1.2.2.1 (az_hc ak_k190 (2, 12, (0, 0, 0), szc_118) ak_d190_78) = true := by decide +kernel
def ak_g190_79 : List azHd := [ak_d190_88]
theorem ak_e190_79 : az_ex szP az_inl ak_k190.2.1 ak_t190 ak_k190.2.2.2.2.1 (fun _ => az_pre 118 []) (az_hint ak_t190) (az_leaf ak_k190 ak_g190_79 (some ak_d190_79.2.2.1) (az_hb 1) (az_rb 1)) 405160 ak_d190_79.2.1.1 ak_d190_79.2.1.2.1 ak_d190_79.2.1.2.2.1 (az_hc ak_k190 (2, 12, (0, 0, 0), szc_118) ak_d190_79) = true := by decide +kernel
def ak_g190_80 : List azHd := [ak_d190_89]
theorem ak_e190_80 : az_ex szP az_inl ak_k190.2.1 ak_t190 ak_k190.2.2.2.2.1 (fun _ => az_pre 118 []) (az_hint ak_t190) (az_leaf ak_k190 ak_g190_80 (some ak_d190_80.2.2.1) (az_hb 1) (az_rb 1)) 405160 ak_d190_80.2.1.1 ak_d190_80.2.1.2.1 ak_d190_80.2.1.2.2.1 (az_hc ak_k190 (2, 12, (0, 0, 0), szc_118) ak_d190_80) = true := by decide +kernel
def ak_g190_81 : List azHd := []
theorem ak_e190_81 : az_ex szP az_inl ak_k190.2.1 ak_t190 ak_k190.2.2.2.2.1 (fun _ => az_pre 118 []) (az_hint ak_t190) (az_leaf ak_k190 ak_g190_81 (some ak_d190_81.2.2.1) (az_hb 1) (az_rb 1)) 405160 ak_d190_81.2.1.1 ak_d190_81.2.1.2.1 ak_d190_81.2.1.2.2.1 (az_hc ak_k190 (2, 12, (0, 0, 0), szc_118) ak_d190_81) = true := by decide +kernel
