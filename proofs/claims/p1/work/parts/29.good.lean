theorem x_gd0 : ∀ d, d < 32 → x_sz8 (nI (0 + d)) 8 ≤ 4 → x_ok (0 + d) := by decide +kernel
theorem x_gd1 : ∀ d, d < 32 → x_sz8 (nI (32 + d)) 8 ≤ 4 → x_ok (32 + d) := by decide +kernel
theorem x_gd2 : ∀ d, d < 32 → x_sz8 (nI (64 + d)) 8 ≤ 4 → x_ok (64 + d) := by decide +kernel
theorem x_gd3 : ∀ d, d < 32 → x_sz8 (nI (96 + d)) 8 ≤ 4 → x_ok (96 + d) := by decide +kernel
theorem x_gd4 : ∀ d, d < 32 → x_sz8 (nI (128 + d)) 8 ≤ 4 → x_ok (128 + d) := by decide +kernel
theorem x_gd5 : ∀ d, d < 32 → x_sz8 (nI (160 + d)) 8 ≤ 4 → x_ok (160 + d) := by decide +kernel
theorem x_gd6 : ∀ d, d < 32 → x_sz8 (nI (192 + d)) 8 ≤ 4 → x_ok (192 + d) := by decide +kernel
theorem x_gd7 : ∀ d, d < 32 → x_sz8 (nI (224 + d)) 8 ≤ 4 → x_ok (224 + d) := by decide +kernel
theorem x_bcz : ∀ q, q < 256 → x_bc (nI q) = x_sz8 (nI q) 8 := by decide +kernel
theorem x_good {s : Nat} (hs : s < 256) (h4 : x_sz8 (nI s) 8 ≤ 4) : x_ok s := by
  by_cases h0 : s < 32
  · obtain ⟨d, hd, rfl⟩ : ∃ d, d < 32 ∧ s = 0 + d := ⟨s - 0, by omega, by omega⟩
    exact x_gd0 d hd h4
  by_cases h1 : s < 64
  · obtain ⟨d, hd, rfl⟩ : ∃ d, d < 32 ∧ s = 32 + d := ⟨s - 32, by omega, by omega⟩
    exact x_gd1 d hd h4
  by_cases h2 : s < 96
  · obtain ⟨d, hd, rfl⟩ : ∃ d, d < 32 ∧ s = 64 + d := ⟨s - 64, by omega, by omega⟩
    exact x_gd2 d hd h4
  by_cases h3 : s < 128
  · obtain ⟨d, hd, rfl⟩ : ∃ d, d < 32 ∧ s = 96 + d := ⟨s - 96, by omega, by omega⟩
    exact x_gd3 d hd h4
  by_cases h4 : s < 160
  · obtain ⟨d, hd, rfl⟩ : ∃ d, d < 32 ∧ s = 128 + d := ⟨s - 128, by omega, by omega⟩
    exact x_gd4 d hd h4
  by_cases h5 : s < 192
  · obtain ⟨d, hd, rfl⟩ : ∃ d, d < 32 ∧ s = 160 + d := ⟨s - 160, by omega, by omega⟩
    exact x_gd5 d hd h4
  by_cases h6 : s < 224
  · obtain ⟨d, hd, rfl⟩ : ∃ d, d < 32 ∧ s = 192 + d := ⟨s - 192, by omega, by omega⟩
    exact x_gd6 d hd h4
  by_cases h7 : s < 256
  · obtain ⟨d, hd, rfl⟩ : ∃ d, d < 32 ∧ s = 224 + d := ⟨s - 224, by omega, by omega⟩
    exact x_gd7 d hd h4
  omega
