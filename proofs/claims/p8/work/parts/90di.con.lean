/-! contracts: written by wip/A/gen56.py -/
def ak_g190_19 : List azHd := [ak_d190_28]
theorem ak_e190_19 : az_ex szP az_inl ak_k190.2.1 ak_t190 ak_k190.2.2.2.2.1 (fun _ => az_pre 118 []) (az_hint ak_t190) (az_leaf ak_k190 ak_g190_19 (some ak_d190_19.2.2.1) (az_hb 1) (az_rb 1)) 405160 ak_d190_19.2.1.1 ak_d190_19.2.1.2.1 ak_d190_19.2.1.2.2.1 (az_hc ak_k190 (2, 12, (0, 0, 0), szc_118) ak_d190_19) = true := by decide +kernel
def ak_g190_20 : List azHd := [ak_d190_29]
theorem ak_e190_20 : az_ex szP az_inl ak_k190.2.1 ak_t190 ak_k190.2.2.2.2.1 (fun _ => az_pre 118 []) (az_hint ak_t190) (az_leaf ak_k190 ak_g190_20 (some ak_d190_20.2.2.1) (az_hb 1) (az_rb 1)) 405160 ak_d190_20.2.1.1 ak_d190_20.2.1.2.1 ak_d190_20.2.1.2.2.1 (az_hc ak_k190 (2, 12, (0, 0, 0), szc_118) ak_d190_20) = true := by decide +kernel
def ak_g190_21 : List azHd := [ak_d190_30]
theorem ak_e190_21 : az_ex szP az_inl ak_k190.2.1 ak_t190 ak_k190.2.2.2.2.1 (fun _ => az_pre 118 []) (az_hint ak_t190) (az_leaf ak_k190 ak_g190_21 (some ak_d190_21.2.2.1) (az_hb 1) (az_rb 1)) 405160 ak_d190_21.2.1.1 ak_d190_21.2.1.2.1 ak_d190_21.2.1.2.2.1 (az_hc ak_k190 (2, 12, (0, 0, 0), szc_118) ak_d190_21) = true := by decide +kernel
def ak_g190_22 : List azHd := [ak_d190_31]
theorem ak_e190_22 : az_ex szP az_inl ak_k190.2.1 ak_t190 ak_k190.2.2.2.2.1 (fun _ => az_pre 118 []) (az_hint ak_t190) (az_leaf ak_k190 ak_g190_22 (some ak_d190_22.2.2.1) (az_hb 1) (az_rb 1)) 405160 ak_d190_22.2.1.1 ak_d190_22.2.1.2.1 ak_d190_22.2.1.2.2.1 (az_hc ak_k190 (2, 12, (0, 0, 0), szc_118) ak_d190_22) = true := by decide +kernel
def ak_g190_23 : List azHd := [ak_d190_32]
theorem ak_e190_23 : az_ex szP az_inl ak_k190.2.1 ak_t190 ak_k190.2.2.2.2.1 (fun _ => az_pre 118 []) (az_hint ak_t190) (az_leaf ak_k190 ak_g190_23 (some ak_d190_23.2.2.1) (az_hb 1) (az_rb 1)) 405160 ak_d190_23.2.1.1 ak_d190_23.2.1.2.1 ak_d190_23.2.1.2.2.1 (az_hc ak_k190 (2, 12, (0, 0, 0), szc_118) ak_d190_23) = true := by decide +kernel
def ak_g190_24 : List azHd := [ak_d190_33]
theorem ak_e190_24 : az_ex szP az_inl ak_k190.2.1 ak_t190 ak_k190.2.2.2.2.1 (fun _ => az_pre 118 []) (az_hint ak_t190) (az_leaf ak_k190 ak_g190_24 (some ak_d190_24.2.2.1) (az_hb 1) (az_rb 1)) 405160 ak_d190_24.2.1.1 ak_d190_24.2.1.2.1 ak_d190_24.2.1.2.2.1 (az_hc ak_k190 (2, 12, (0, 0, 0), szc_118) ak_d190_24) = true := by decide +kernel
def ak_g190_25 : List azHd := [ak_d190_34]
theorem ak_e190_25 : az_ex szP az_inl ak_k190.2.1 ak_t190 ak_k190.2.2.2.2.1 (fun _ => az_pre 118 []) (az_hint ak_t190) (az_leaf ak_k190 ak_g190_25 (some ak_d190_25.2.2.1) (az_hb 1) (az_rb 1)) 405160 ak_d190_25.2.1.1 ak_d190_25.2.1.2.1 ak_d190_25.2.1.2.2.1 (az_hc ak_k190 (2, 12, (0, 0, 0), szc_118) ak_d190_25) = true := by decide +kernel
def ak_g190_26 : List azHd := [ak_d190_35]
theorem ak_e190_26 : az_ex szP az_inl ak_k190.2.1 ak_t190 ak_k190.2.2.2.2.1 (fun _ => az_pre 118 []) (az_hint ak_t190) (az_leaf ak_k190 ak_g190_26 (some ak_d190_26.2.2.1) (az_hb 1) (az_rb 1)) 405160 ak_d190_26.2.1.1 ak_d190_26.2.1.2.1 ak_d190_26.2.1.2.2.1 (az_hc ak_k190 (2, 12, (0, 0, 0), szc_118) ak_d190_26) = true := by decide +kernel
def ak_g190_27 : List azHd := [ak_d190_36]
theorem ak_e190_27 : az_ex szP az_inl ak_k190.2.1 ak_t190 ak_k190.2.2.2.2.1 (fun _ => az_pre 118 []) (az_hint ak_t190) (az_leaf ak_k190 ak_g190_27 (some ak_d190_27.2.2.1) (az_hb 1) (az_rb 1)) 405160 ak_d190_27.2.1.1 ak_d190_27.2.1.2.1 ak_d190_27.2.1.2.2.1 (az_hc ak_k190 (2, 12, (0, 0, 0), szc_118) ak_d190_27) = true := by decide +kernel
def ak_g190_28 : List azHd := [ak_d190_37]
theorem ak_e190_28 : az_ex szP az_inl ak_k190.2.1 ak_t190 ak_k190.2.2.2.2.1 (fun _ => az_pre 118 []) (az_hint ak_t190) (az_leaf ak_k190 ak_g190_28 (some ak_d190_28.2.2.1) (az_hb 1) (az_rb 1)) 405160 ak_d190_28.2.1.1 ak_d190_28.2.1.2.1 ak_d190_28.2.1.2.2.1 (az_hc ak_k190 (2, 12, (0, 0, 0), szc_118) ak_d190_28) = true := by decide +kernel
def ak_g190_29 : List azHd := [ak_d190_38]
theorem ak_e190_29 : az_ex szP az_inl ak_k190.2.1 ak_t190 ak_k190.2.2.2.2.1 (fun _ => az_pre 118 []) (az_hint ak_t190) (az_leaf ak_k190 ak_g190_29 (some ak_d190_29.2.2.1) (az_hb 1) (az_rb 1)) 405160 ak_d190_29.2.1.1 ak_d190_29.2.1.2.1 ak_d190_29.2.1.2.2.1 (az_hc ak_k190 (2, 12, (0, 0, 0), szc_118) ak_d190_29) = true := by decide +kernel
def ak_g190_30 : List azHd := [ak_d190_39]
theorem ak_e190_30 : az_ex szP az_inl ak_k190.2.1 ak_t190 ak_k190.2.2.2.2.1 (fun _ => az_pre 118 []) (az_hint ak_t190) (az_leaf ak_k190 ak_g190_30 (some ak_d190_30.2.2.1) (az_hb 1) (az_rb 1)) 405160 ak_d190_30.2.1.1 ak_d190_30.2.1.2.1 ak_d190_30.2.1.2.2.1 (az_hc ak_k190 (2, 12, (0, 0, 0), szc_118) ak_d190_30) = true := by decide +kernel
def ak_g190_31 : List azHd := [ak_d190_40]
theorem ak_e190_31 : az_ex szP az_inl ak_k190.2.1 ak_t190 ak_k190.2.2.2.2.1 (fun _ => az_pre 118 []) (az_hint ak_t190) (az_leaf ak_k190 ak_g190_31 (some ak_d190_31.2.2.1) (az_hb 1) (az_rb 1)) 405160 ak_d190_31.2.1.1 ak_d190_31.2.1.2.1 ak_d190_31.2.1.2.2.1 (az_hc ak_k190 (2, 12, (0, 0, 0), szc_118) ak_d190_31) = true := by decide +kernel
def ak_g190_32 : List azHd := [ak_d190_41]
theorem ak_e190_32 : az_ex szP az_inl ak_k190.2.1 ak_t190 ak_k190.2.2.2.2.1 (fun _ => az_pre 118 []) (az_hint ak_t190) (az_leaf ak_k190 ak_g190_32 (some ak_d190_32.2.2.1) (az_hb 1) (az_rb 1)) 405160 ak_d190_32.2.1.1 ak_d190_32.2.1.2.1 ak_d190_32.2.1.2.2.1 (az_hc ak_k190 (2, 12, (0, 0, 0), szc_118) ak_d190_32) = true := by decide +kernel
def ak_g190_33 : List azHd := [ak_d190_42]
theorem ak_e190_33 : az_ex szP az_inl ak_k190.2.1 ak_t190 ak_k190.2.2.2.2.1 (fun _ => az_pre 118 []) (az_hint ak_t190) (az_leaf ak_k190 ak_g190_33 (some ak_d190_33.2.2.1) (az_hb 1) (az_rb 1)) 405160 ak_d190_33.2.1.1 ak_d190_33.2.1.2.1 ak_d190_33.2.1.2.2.1 (az_hc ak_k190 (2, 12, (0, 0, 0), szc_118) ak_d190_33) = true := by decide +kernel
def ak_g190_34 : List azHd := [ak_d190_43]
theorem ak_e190_34 : az_ex szP az_inl ak_k190.2.1 ak_t190 ak_k190.2.2.2.2.1 (fun _ => az_pre 118 []) (az_hint ak_t190) (az_leaf ak_k190 ak_g190_34 (some ak_d190_34.2.2.1) (az_hb 1) (az_rb 1)) 405160 ak_d190_34.2.1.1 ak_d190_34.2.1.2.1 ak_d190_34.2.1.2.2.1 (az_hc ak_k190 (2, 12, (0, 0, 0), szc_118) ak_d190_34) = true := by decide +kernel
def ak_g190_35 : List azHd := [ak_d190_44]
theorem ak_e190_35 : az_ex szP az_inl ak_k190.2.1 ak_t190 ak_k190.2.2.2.2.1 (fun _ => az_pre 118 []) (az_hint ak_t190) (az_leaf ak_k190 ak_g190_35 (some ak_d190_35.2.2.1) (az_hb 1) (az_rb 1)) 405160 ak_d190_35.2.1.1 ak_d190_35.2.1.2.1 ak_d190_35.2.1.2.2.1 (az_hc ak_k190 (2, 12, (0, 0, 0), szc_118) ak_d190_35) = true := by decide +kernel
def ak_g190_36 : List azHd := [ak_d190_45]
theorem ak_e190_36 : az_ex szP az_inl ak_k190.2.1 ak_t190 ak_k190.2.2.2.2.1 (fun _ => az_pre 118 []) (az_hint ak_t190) (az_leaf ak_k190 ak_g190_36 (some ak_d190_36.2.2.1) (az_hb 1) (az_rb 1)) 405160 ak_d190_36.2.1.1 ak_d190_36.2.1.2.1 ak_d190_36.2.1.2.2.1 (az_hc ak_k190 (2, 12, (0, 0, 0), szc_118) ak_d190_36) = true := by decide +kernel
def ak_g190_37 : List azHd := [ak_d190_46]
theorem ak_e190_37 : az_ex szP az_inl ak_k190.2.1 ak_t190 ak_k190.2.2.2.2.1 (fun _ => az_pre 118 []) (az_hint ak_t190) (az_leaf ak_k190 ak_g190_37 (some ak_d190_37.2.2.1) (az_hb 1) (az_rb 1)) 405160 ak_d190_37.2.1.1 ak_d190_37.2.1.2.1 ak_d190_37.2.1.2.2.1 (az_hc ak_k190 (2, 12, (0, 0, 0), szc_118) ak_d190_37) = true := by decide +kernel
def ak_g190_38 : List azHd := [ak_d190_47]
theorem ak_e190_38 : az_ex szP az_inl ak_k190.2.1 ak_t190 ak_k190.2.2.2.2.1 (fun _ => az_pre 118 []) (az_hint ak_t190) (az_leaf ak_k190 ak_g190_38 (some ak_d190_38.2.2.1) (az_hb 1) (az_rb 1)) 405160 ak_d190_38.2.1.1 ak_d190_38.2.1.2.1 ak_d190_38.2.1.2.2.1 (az_hc ak_k190 (2, 12, (0, 0, 0), szc_118) ak_d190_38) = true := by decide +kernel
def ak_g190_39 : List azHd := [ak_d190_48]
theorem ak_e190_39 : az_ex szP az_inl ak_k190.2.1 ak_t190 ak_k190.2.2.2.2.1 (fun _ => az_pre 118 []) (az_hint ak_t190) (az_leaf ak_k190 ak_g190_39 (some ak_d190_39.2.2.1) (az_hb 1) (az_rb 1)) 405160 ak_d190_39.2.1.1 ak_d190_39.2.1.2.1 ak_d190_39.2.1.2.2.1 (az_hc ak_k190 (2, 12, (0, 0, 0), szc_118) ak_d190_39) = true := by decide +kernel
