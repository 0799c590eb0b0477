/-! TABLES: faces; inverses modulo small primes -/
theorem x_fdT : ((List.range 256).all fun s => !(decide (x_sz8 (nI s) 8 ≤ 4)) || ((List.range 8).all fun v => decide (x_fv s v = nI s) || decide (x_dm (x_fv s v) = x_dm (nI s) - 1))) = true := by decide +kernel
theorem x_fd {s v : Nat} (hs : s < 256) (h4 : x_sz8 (nI s) 8 ≤ 4) (hv : v < 8) (h : ¬ x_fv s v = nI s) : x_dm (x_fv s v) = x_dm (nI s) - 1 := by
  have h1 := List.all_eq_true.mp x_fdT s (List.mem_range.mpr hs)
  simp only [Bool.or_eq_true, Bool.not_eq_true', decide_eq_true_eq, decide_eq_false_iff_not] at h1
  have h2 := List.all_eq_true.mp (h1.resolve_left (fun q => q h4)) v (List.mem_range.mpr hv)
  simp only [Bool.or_eq_true, decide_eq_true_eq] at h2
  exact h2.resolve_left h
theorem x_sfT : ((List.range 256).all fun s => !(decide (x_sz8 (nI s) 8 ≤ 4)) || ((List.range 256).all fun f => !(decide (x_A s f)) || !(decide (x_bc (nI s &&& (nI f ^^^ (Int32.ofInt (-1)))) = 1)) || ((List.range 8).any fun v => decide (x_fv s v = nI f) && !(decide (x_fv s v = nI s))))) = true := by decide +kernel
theorem x_sf_fv {s f : Nat} (hs : s < 256) (h4 : x_sz8 (nI s) 8 ≤ 4) (hf : f < 256) (h : ¬ x_sf (nI f) (nI s) = 0) : ∃ v, v < 8 ∧ x_fv s v = nI f ∧ ¬ x_fv s v = nI s := by
  have h1 := List.all_eq_true.mp x_sfT s (List.mem_range.mpr hs)
  simp only [Bool.or_eq_true, Bool.not_eq_true', decide_eq_true_eq, decide_eq_false_iff_not] at h1
  have h2 := List.all_eq_true.mp (h1.resolve_left (fun q => q h4)) f (List.mem_range.mpr hf)
  simp only [Bool.or_eq_true, Bool.and_eq_true, Bool.not_eq_true', decide_eq_true_eq, decide_eq_false_iff_not, List.any_eq_true] at h2
  have hc : (nI f &&& (nI s ^^^ (Int32.ofInt (-1)))) = 0 ∧ x_bc (nI s &&& (nI f ^^^ (Int32.ofInt (-1)))) = 1 := Classical.byContradiction (fun q => h (by unfold x_sf; rw [if_neg q]))
  rcases h2 with (h2 | h2) | ⟨v, hv, h3, h5⟩
  · exact absurd hc.1 h2
  · exact absurd hc.2 h2
  · exact ⟨v, List.mem_range.mp hv, h3, h5⟩
