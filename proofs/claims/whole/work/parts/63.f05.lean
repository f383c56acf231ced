/-! every mean there may be: a part of a long check -/
theorem all_F19 : alN (fun k => chkFS (tF (k : Int) 19)) 932 = true := by decide +kernel
theorem all_F20 : alN (fun k => chkFS (tF (k : Int) 20)) 981 = true := by decide +kernel
