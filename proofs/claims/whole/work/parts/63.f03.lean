/-! every mean there may be: a part of a long check -/
theorem all_F13 : alN (fun k => chkFS (tF (k : Int) 13)) 638 = true := by decide +kernel
theorem all_F14 : alN (fun k => chkFS (tF (k : Int) 14)) 687 = true := by decide +kernel
theorem all_F15 : alN (fun k => chkFS (tF (k : Int) 15)) 736 = true := by decide +kernel
