/-! TABLES: bits -/
def x_pc (n : Nat) : Nat := n % 2 + n / 2 % 2 + n / 4 % 2 + n / 8 % 2 + n / 16 % 2 + n / 32 % 2 + n / 64 % 2 + n / 128 % 2
def x_tb (m w : Nat) : Nat := m / 2 ^ w % 2
theorem x_pcA : ((List.range 256).all fun m => (List.range 8).all fun w => (decide (x_tb m w = 1) && decide (m ||| 2 ^ w = m)) || (decide (x_tb m w = 0) && decide (m ||| 2 ^ w < 256) && decide (x_pc (m ||| 2 ^ w) = x_pc m + 1) && ((List.range 8).all fun k => decide (x_pc ((m ||| 2 ^ w) / 2 ^ k) = x_pc (m / 2 ^ k) + (if k ≤ w then 1 else 0)) && decide (x_tb (m ||| 2 ^ w) k = if k = w then 1 else x_tb m k)))) = true := by decide +kernel
theorem x_pcC : ((List.range 256).all fun m => decide (x_sz8 (nI m) 8 = nI (x_pc m)) && ((List.range 8).all fun k => decide (x_bc (nI m >>> (nI k &&& 31)) = nI (x_pc (m / 2 ^ k))) && decide ((nI m >>> (nI k &&& 31)) &&& 1 = nI (x_tb m k)))) = true := by decide +kernel
theorem x_pcA0 {m w : Nat} (hm : m < 256) (hw : w < 8) : (x_tb m w = 1 ∧ m ||| 2 ^ w = m) ∨ (x_tb m w = 0 ∧ m ||| 2 ^ w < 256 ∧ x_pc (m ||| 2 ^ w) = x_pc m + 1 ∧ ∀ k, k < 8 → x_pc ((m ||| 2 ^ w) / 2 ^ k) = x_pc (m / 2 ^ k) + (if k ≤ w then 1 else 0) ∧ x_tb (m ||| 2 ^ w) k = if k = w then 1 else x_tb m k) := by
  have h1 := List.all_eq_true.mp (List.all_eq_true.mp x_pcA m (List.mem_range.mpr hm)) w (List.mem_range.mpr hw)
  simp only [Bool.or_eq_true, Bool.and_eq_true, decide_eq_true_eq] at h1
  refine h1.imp (fun q => q) (fun q => ⟨q.1.1.1, q.1.1.2, q.1.2, fun k hk => ?_⟩)
  have h2 := List.all_eq_true.mp q.2 k (List.mem_range.mpr hk)
  simp only [Bool.and_eq_true, decide_eq_true_eq] at h2
  exact h2
theorem x_pcC0 {m : Nat} (hm : m < 256) : x_sz8 (nI m) 8 = nI (x_pc m) ∧ ∀ k, k < 8 → x_bc (nI m >>> (nI k &&& 31)) = nI (x_pc (m / 2 ^ k)) ∧ (nI m >>> (nI k &&& 31)) &&& 1 = nI (x_tb m k) := by
  have h1 := List.all_eq_true.mp x_pcC m (List.mem_range.mpr hm)
  simp only [Bool.and_eq_true, decide_eq_true_eq] at h1
  refine ⟨h1.1, fun k hk => ?_⟩
  have h2 := List.all_eq_true.mp h1.2 k (List.mem_range.mpr hk)
  simp only [Bool.and_eq_true, decide_eq_true_eq] at h2
  exact h2
