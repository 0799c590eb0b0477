/-! TABLES of the 256 sets -/
theorem x_bcb : (List.range 256).all (fun q => decide (x_bc (nI q) = x_sz8 (nI q) 8)) = true := by decide +kernel
theorem x_bcz (q : Nat) (hq : q < 256) : x_bc (nI q) = x_sz8 (nI q) 8 := of_decide_eq_true (List.all_eq_true.mp x_bcb q (List.mem_range.mpr hq))
theorem x_sgfT : ((List.range 256).all fun a => !(decide (x_sz8 (nI a) 8 ≤ 4)) || ((List.range 256).all fun b => !(decide (x_A a b)) || decide (b = 0) || decide (x_sg (nI a) (nI b) = x_sf (nI b) (nI a)))) = true := by decide +kernel
theorem x_sgf {a b : Nat} (ha : a < 256) (h4 : x_sz8 (nI a) 8 ≤ 4) (hb1 : 1 ≤ b) (hb : b < 256) : x_sg (nI a) (nI b) = x_sf (nI b) (nI a) := by
  by_cases c : x_A a b
  · have h1 := List.all_eq_true.mp x_sgfT a (List.mem_range.mpr ha)
    simp only [Bool.or_eq_true, Bool.not_eq_true', decide_eq_true_eq, decide_eq_false_iff_not] at h1
    have h2 := List.all_eq_true.mp (h1.resolve_left (fun q => q h4)) b (List.mem_range.mpr hb)
    simp only [Bool.or_eq_true, Bool.not_eq_true', decide_eq_true_eq, decide_eq_false_iff_not] at h2
    rcases h2 with (h2 | h2) | h2
    · exact absurd c h2
    · omega
    · exact h2
  · unfold x_sg x_sf
    rw [if_neg (fun q => c q.1), if_neg (fun q => c q.1)]
/-- the faces as the counter goes through them, and as sets in order -/
def x_fl (s : Nat) : List Nat := (List.range 256).filter (fun q => decide (1 ≤ q) && decide (x_A s q))
theorem x_flT : ((List.range 256).all fun s => !(decide (x_sz8 (nI s) 8 ≤ 4)) || (decide (x_fc s (x_N s) ≤ 0) && decide ((List.range (x_N s)).map (x_fc s) = ((x_fl s).map nI).reverse) && ((x_fl s).all fun q => decide (q ≤ s) && decide (x_sz8 (nI q) 8 ≤ 4) && decide (1 ≤ x_sz8 (nI q) 8)))) = true := by decide +kernel
