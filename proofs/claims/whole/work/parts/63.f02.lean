/-! every mean there may be: a part of a long check -/
theorem all_F9 : alN (fun k => chkFS (tF (k : Int) 9)) 442 = true := by decide +kernel
theorem all_F10 : alN (fun k => chkFS (tF (k : Int) 10)) 491 = true := by decide +kernel
theorem all_F11 : alN (fun k => chkFS (tF (k : Int) 11)) 540 = true := by decide +kernel
theorem all_F12 : alN (fun k => chkFS (tF (k : Int) 12)) 589 = true := by decide +kernel
