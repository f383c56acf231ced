/-! every mean there may be: a part of a long check -/
theorem all_F16 : alN (fun k => chkFS (tF (k : Int) 16)) 785 = true := by decide +kernel
theorem all_F17 : alN (fun k => chkFS (tF (k : Int) 17)) 834 = true := by decide +kernel
theorem all_F18 : alN (fun k => chkFS (tF (k : Int) 18)) 883 = true := by decide +kernel
