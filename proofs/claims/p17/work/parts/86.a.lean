/-! A TABLE: what boundaries weigh -/
theorem x_l1T : ((List.range 256).all fun s => !(decide (x_sz8 (nI s) 8 ≤ 4)) || decide (dt_S (fun q => ((x_sg (nI s) (nI q)).toInt.natAbs : Int)) 256 ≤ 4)) = true := by decide +kernel
