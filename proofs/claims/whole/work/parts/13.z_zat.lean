/-! the words of the throws -/
theorem zat_123 : ∀ w ∈ vx_atS RX5 123 (zExc 3) ["java/lang/RuntimeException", "java/lang/Exception"], w ∈ zAll ∨ w ∈ zBad := by
  have h : ((vx_atS RX5 123 (zExc 3) ["java/lang/RuntimeException", "java/lang/Exception"]).all (fun w => decide (w ∈ lw_tbl) && goodWord w || decide (w ∈ zBad))) = true := by decide +kernel
  intro w hw
  have h1 := List.all_eq_true.mp h w hw
  simp only [Bool.or_eq_true, Bool.and_eq_true, decide_eq_true_eq] at h1
  exact h1.imp (fun h2 => zg h2.1 h2.2) id
theorem zat_206 : ∀ w ∈ vx_atS RX5 206 (zExc 5) ["java/lang/RuntimeException", "java/lang/Exception"], w ∈ zAll ∨ w ∈ zBad := by
  have h : ((vx_atS RX5 206 (zExc 5) ["java/lang/RuntimeException", "java/lang/Exception"]).all (fun w => decide (w ∈ lw_tbl) && goodWord w || decide (w ∈ zBad))) = true := by decide +kernel
  intro w hw
  have h1 := List.all_eq_true.mp h w hw
  simp only [Bool.or_eq_true, Bool.and_eq_true, decide_eq_true_eq] at h1
  exact h1.imp (fun h2 => zg h2.1 h2.2) id
theorem zat_342 : ∀ w ∈ vx_atS RX5 342 (zExc 4) ["java/lang/RuntimeException", "java/lang/Exception"], w ∈ zAll ∨ w ∈ zBad := by
  have h : ((vx_atS RX5 342 (zExc 4) ["java/lang/RuntimeException", "java/lang/Exception"]).all (fun w => decide (w ∈ lw_tbl) && goodWord w || decide (w ∈ zBad))) = true := by decide +kernel
  intro w hw
  have h1 := List.all_eq_true.mp h w hw
  simp only [Bool.or_eq_true, Bool.and_eq_true, decide_eq_true_eq] at h1
  exact h1.imp (fun h2 => zg h2.1 h2.2) id
theorem zat_72 : ∀ w ∈ vx_atS RX5 72 (zExc 1) ["java/lang/RuntimeException", "java/lang/Exception"], w ∈ zAll ∨ w ∈ zBad := by
  have h : ((vx_atS RX5 72 (zExc 1) ["java/lang/RuntimeException", "java/lang/Exception"]).all (fun w => decide (w ∈ lw_tbl) && goodWord w || decide (w ∈ zBad))) = true := by decide +kernel
  intro w hw
  have h1 := List.all_eq_true.mp h w hw
  simp only [Bool.or_eq_true, Bool.and_eq_true, decide_eq_true_eq] at h1
  exact h1.imp (fun h2 => zg h2.1 h2.2) id
theorem zat_89 : ∀ w ∈ vx_atS RX5 89 (zExc 2) ["java/lang/RuntimeException", "java/lang/Exception"], w ∈ zAll ∨ w ∈ zBad := by
  have h : ((vx_atS RX5 89 (zExc 2) ["java/lang/RuntimeException", "java/lang/Exception"]).all (fun w => decide (w ∈ lw_tbl) && goodWord w || decide (w ∈ zBad))) = true := by decide +kernel
  intro w hw
  have h1 := List.all_eq_true.mp h w hw
  simp only [Bool.or_eq_true, Bool.and_eq_true, decide_eq_true_eq] at h1
  exact h1.imp (fun h2 => zg h2.1 h2.2) id
theorem zgw_123 : ∀ w ∈ Cond.classLink RX5 119 (zExc 3) :: Cond.initialized (zExc 3) :: vx_atS RX5 123 (zExc 3) ["java/lang/RuntimeException", "java/lang/Exception"], vx_ot w = true := by decide +kernel
theorem zgw_206 : ∀ w ∈ Cond.classLink RX5 202 (zExc 5) :: Cond.initialized (zExc 5) :: vx_atS RX5 206 (zExc 5) ["java/lang/RuntimeException", "java/lang/Exception"], vx_ot w = true := by decide +kernel
theorem zgw_342 : ∀ w ∈ Cond.classLink RX5 338 (zExc 4) :: Cond.initialized (zExc 4) :: vx_atS RX5 342 (zExc 4) ["java/lang/RuntimeException", "java/lang/Exception"], vx_ot w = true := by decide +kernel
theorem zgw_72 : ∀ w ∈ Cond.classLink RX5 68 (zExc 1) :: Cond.initialized (zExc 1) :: vx_atS RX5 72 (zExc 1) ["java/lang/RuntimeException", "java/lang/Exception"], vx_ot w = true := by decide +kernel
theorem zgw_89 : ∀ w ∈ Cond.classLink RX5 85 (zExc 2) :: Cond.initialized (zExc 2) :: vx_atS RX5 89 (zExc 2) ["java/lang/RuntimeException", "java/lang/Exception"], vx_ot w = true := by decide +kernel
