/-! the packed program is the program -/
theorem sz_pkall_szP : sz_pkall szP mzP = true := by decide +kernel
theorem sz_pk_0 : sz_pk szc_0 mzc_0 = true := by decide +kernel
