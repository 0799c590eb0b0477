def x_okb (s : Nat) : Bool := !(decide (x_sz8 (nI s) 8 ≤ 4)) || decide (x_ok s)
theorem x_gd0 : (List.range 32).all (fun d => x_okb (0 + d)) = true := by decide +kernel
theorem x_gd1 : (List.range 32).all (fun d => x_okb (32 + d)) = true := by decide +kernel
theorem x_gd2 : (List.range 32).all (fun d => x_okb (64 + d)) = true := by decide +kernel
theorem x_gd3 : (List.range 32).all (fun d => x_okb (96 + d)) = true := by decide +kernel
theorem x_gd4 : (List.range 32).all (fun d => x_okb (128 + d)) = true := by decide +kernel
theorem x_gd5 : (List.range 32).all (fun d => x_okb (160 + d)) = true := by decide +kernel
theorem x_gd6 : (List.range 32).all (fun d => x_okb (192 + d)) = true := by decide +kernel
theorem x_gd7 : (List.range 32).all (fun d => x_okb (224 + d)) = true := by decide +kernel
theorem x_okb_sp {s : Nat} (h : x_okb s = true) (h4 : x_sz8 (nI s) 8 ≤ 4) : x_ok s := by
  unfold x_okb at h
  rw [decide_eq_true h4] at h
  exact of_decide_eq_true h
theorem x_bcb : (List.range 256).all (fun q => decide (x_bc (nI q) = x_sz8 (nI q) 8)) = true := by decide +kernel
theorem x_bcz (q : Nat) (hq : q < 256) : x_bc (nI q) = x_sz8 (nI q) 8 := of_decide_eq_true (List.all_eq_true.mp x_bcb q (List.mem_range.mpr hq))
theorem x_good {s : Nat} (hs : s < 256) (h4 : x_sz8 (nI s) 8 ≤ 4) : x_ok s := by
  by_cases g0 : s < 32
  · obtain ⟨d, hd, rfl⟩ : ∃ d, d < 32 ∧ s = 0 + d := ⟨s - 0, by omega, by omega⟩
    exact x_okb_sp (List.all_eq_true.mp x_gd0 d (List.mem_range.mpr hd)) h4
  by_cases g1 : s < 64
  · obtain ⟨d, hd, rfl⟩ : ∃ d, d < 32 ∧ s = 32 + d := ⟨s - 32, by omega, by omega⟩
    exact x_okb_sp (List.all_eq_true.mp x_gd1 d (List.mem_range.mpr hd)) h4
  by_cases g2 : s < 96
  · obtain ⟨d, hd, rfl⟩ : ∃ d, d < 32 ∧ s = 64 + d := ⟨s - 64, by omega, by omega⟩
    exact x_okb_sp (List.all_eq_true.mp x_gd2 d (List.mem_range.mpr hd)) h4
  by_cases g3 : s < 128
  · obtain ⟨d, hd, rfl⟩ : ∃ d, d < 32 ∧ s = 96 + d := ⟨s - 96, by omega, by omega⟩
    exact x_okb_sp (List.all_eq_true.mp x_gd3 d (List.mem_range.mpr hd)) h4
  by_cases g4 : s < 160
  · obtain ⟨d, hd, rfl⟩ : ∃ d, d < 32 ∧ s = 128 + d := ⟨s - 128, by omega, by omega⟩
    exact x_okb_sp (List.all_eq_true.mp x_gd4 d (List.mem_range.mpr hd)) h4
  by_cases g5 : s < 192
  · obtain ⟨d, hd, rfl⟩ : ∃ d, d < 32 ∧ s = 160 + d := ⟨s - 160, by omega, by omega⟩
    exact x_okb_sp (List.all_eq_true.mp x_gd5 d (List.mem_range.mpr hd)) h4
  by_cases g6 : s < 224
  · obtain ⟨d, hd, rfl⟩ : ∃ d, d < 32 ∧ s = 192 + d := ⟨s - 192, by omega, by omega⟩
    exact x_okb_sp (List.all_eq_true.mp x_gd6 d (List.mem_range.mpr hd)) h4
  by_cases g7 : s < 256
  · obtain ⟨d, hd, rfl⟩ : ∃ d, d < 32 ∧ s = 224 + d := ⟨s - 224, by omega, by omega⟩
    exact x_okb_sp (List.all_eq_true.mp x_gd7 d (List.mem_range.mpr hd)) h4
  omega
