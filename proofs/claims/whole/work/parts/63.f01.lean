/-! every mean there may be: a part of a long check -/
theorem all_F1 : alN (fun k => chkFS (tF (k : Int) 1)) 50 = true := by decide +kernel
theorem all_F2 : alN (fun k => chkFS (tF (k : Int) 2)) 99 = true := by decide +kernel
theorem all_F3 : alN (fun k => chkFS (tF (k : Int) 3)) 148 = true := by decide +kernel
theorem all_F4 : alN (fun k => chkFS (tF (k : Int) 4)) 197 = true := by decide +kernel
theorem all_F5 : alN (fun k => chkFS (tF (k : Int) 5)) 246 = true := by decide +kernel
theorem all_F6 : alN (fun k => chkFS (tF (k : Int) 6)) 295 = true := by decide +kernel
theorem all_F7 : alN (fun k => chkFS (tF (k : Int) 7)) 344 = true := by decide +kernel
theorem all_F8 : alN (fun k => chkFS (tF (k : Int) 8)) 393 = true := by decide +kernel
