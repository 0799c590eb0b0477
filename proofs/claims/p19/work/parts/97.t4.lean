/-! SPANS: bits of ints and longs; the two spans, exact -/
theorem f2_ln {a : Nat} (h : a < 2 ^ 63) : (lN a).toBitVec.toNat = a := by
  show (Int64.ofNat a).toBitVec.toNat = a
  rw [Int64.toBitVec_ofNat']
  simp only [BitVec.toNat_ofNat]
  exact Nat.mod_eq_of_lt (by omega)
theorem f2_leq {x : Int64} {a : Nat} (h : a < 2 ^ 63) (e : x.toBitVec.toNat = a) : x = lN a := by
  apply Int64.toBitVec_inj.mp
  apply BitVec.eq_of_toNat_eq
  rw [f2_ln h, e]
theorem f2_lx {a b : Nat} (ha : a < 2 ^ 62) (hb : b < 2 ^ 62) : lN a ^^^ lN b = lN (a ^^^ b) := f2_leq (by have := f2_xlt ha hb; omega) (by rw [Int64.toBitVec_xor, BitVec.toNat_xor, f2_ln (by omega), f2_ln (by omega)])
theorem f2_lor {a b : Nat} (ha : a < 2 ^ 62) (hb : b < 2 ^ 62) : lN a ||| lN b = lN (a ||| b) := f2_leq (by have := Nat.or_lt_two_pow ha hb; omega) (by rw [Int64.toBitVec_or, BitVec.toNat_or, f2_ln (by omega), f2_ln (by omega)])
theorem f2_l1 {a : Nat} (ha : a < 2 ^ 62) : lN a &&& 1 = lN (a % 2) := f2_leq (by omega) (by
  rw [Int64.toBitVec_and, BitVec.toNat_and, f2_ln (by omega), show ((1 : Int64).toBitVec.toNat) = 1 from by decide, Nat.and_one_is_mod])
theorem f2_sm : ∀ b, b < 64 → (((nI b).toInt64 &&& 63).toBitVec.smod 64).toNat = b := by decide +kernel
theorem f2_ls {a b : Nat} (ha : a < 2 ^ 62) (hb : b < 64) : lN a >>> ((nI b).toInt64 &&& 63) = lN (a / 2 ^ b) := by
  apply Int64.toInt_inj.mp
  have h2 : a / 2 ^ b ≤ a := Nat.div_le_self _ _
  show ((lN a).toBitVec.sshiftRight (((nI b).toInt64 &&& 63).toBitVec.smod 64).toNat).toInt = _
  rw [f2_sm b hb, BitVec.toInt_sshiftRight, show (lN a).toBitVec.toInt = (lN a).toInt from rfl, pk_lT (by omega), pk_lT (by omega), Int.shiftRight_eq_div_pow]
  rfl
theorem f2_lt1 {x b : Nat} (hx : x < 2 ^ 62) (hb : b < 64) : lg_cmp ((lN x >>> ((nI b).toInt64 &&& 63)) &&& 1) 0 = 0 ↔ x.testBit b = false := by
  have h2 : x / 2 ^ b ≤ x := Nat.div_le_self _ _
  rw [lg_cmp_eq, f2_ls hx hb, f2_l1 (by omega), show (0 : Int64) = lN 0 from rfl, pk_lEQ (by omega) (by omega), Nat.testBit_eq_decide_div_mod_eq, decide_eq_false_iff_not]
  omega
theorem f2_i2l {a : Nat} (h : a < 2 ^ 31) : (nI a).toInt64 = lN a := Int64.toInt_inj.mp (by rw [x_i64, nI_toInt h, pk_lT (by omega)])
theorem f2_l2i {a : Nat} (h : a < 2 ^ 31) : (lN a).toInt32 = nI a := Int32.toInt_inj.mp (by
  rw [Int64.toInt_toInt32, pk_lT (by omega), nI_toInt h]
  exact Int.bmod_eq_of_le (by omega) (by omega))
theorem f2_l1s : ∀ k, k < 62 → (1 : Int64) <<< ((nI k).toInt64 &&& 63) = lN (2 ^ k) := by decide +kernel
theorem f2_sm32 : ∀ b, b < 31 → ((nI b &&& 31).toBitVec.smod 32).toNat = b := by decide +kernel
theorem f2_is {a b : Nat} (ha : a < 2 ^ 31) (hb : b < 31) : nI a >>> (nI b &&& 31) = nI (a / 2 ^ b) := pk_shrN ha _ b (f2_sm32 b hb)
theorem f2_i1 {a : Nat} (ha : a < 2 ^ 31) : nI a &&& 1 = nI (a % 2) := pk_andN (by omega) 1 rfl
theorem f2_ish {a k : Nat} (hk : k < 31) (h : a * 2 ^ k < 2 ^ 32) : nI a <<< (nI k &&& 31) = nI (a * 2 ^ k) := pk_shlN _ k (f2_sm32 k hk) h
theorem f2_ieq {x : Int32} {a : Nat} (h : a < 2 ^ 32) (e : x.toBitVec.toNat = a) : x = nI a := by
  apply Int32.toBitVec_inj.mp
  apply BitVec.eq_of_toNat_eq
  rw [pk_tn h, e]
theorem f2_ix {a b : Nat} (ha : a < 2 ^ 31) (hb : b < 2 ^ 31) : nI a ^^^ nI b = nI (a ^^^ b) := f2_ieq (by have := f2_xlt ha hb; omega) (by rw [Int32.toBitVec_xor, BitVec.toNat_xor, pk_tn (by omega), pk_tn (by omega)])
theorem f2_ia {a b : Nat} (ha : a < 2 ^ 31) (hb : b < 2 ^ 31) : nI a &&& nI b = nI (a &&& b) := f2_ieq (by have := Nat.and_lt_two_pow a hb; omega) (by rw [Int32.toBitVec_and, BitVec.toNat_and, pk_tn (by omega), pk_tn (by omega)])
theorem f2_it1 {x b : Nat} (hx : x < 2 ^ 31) (hb : b < 31) : ((nI x >>> (nI b &&& 31)) &&& 1) = nI (if x.testBit b then 1 else 0) := by
  have h2 : x / 2 ^ b ≤ x := Nat.div_le_self _ _
  rw [f2_is hx hb, f2_i1 (by omega), Nat.testBit_eq_decide_div_mod_eq]
  congr 1
  by_cases c : x / 2 ^ b % 2 = 1
  · rw [decide_eq_true c, if_pos rfl, c]
  · rw [decide_eq_false c, if_neg (by decide)]
    omega
