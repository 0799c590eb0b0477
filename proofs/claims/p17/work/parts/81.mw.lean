/-! THE REFERENCE: rows, ranks end well -/
theorem x_half {e : Int64} (h : ¬ lg_cmp e 0 ≤ 0) : (e / 2).toInt.toNat < e.toInt.toNat := by
  have h1 : ¬ e ≤ 0 := fun q => h ((lg_cmp_le e 0).mpr q)
  have h2 : ¬ e.toInt ≤ 0 := fun q => h1 (Int64.le_iff_toInt_le.mpr q)
  have l1 := e.toInt_lt
  have e1 : (e / 2).toInt = e.toInt / 2 := by
    rw [Int64.toInt_div, show (2 : Int64).toInt = 2 from by decide, Int.tdiv_eq_ediv_of_nonneg (by omega)]
    exact Int.bmod_eq_of_le (by omega) (by omega)
  rw [e1]
  omega
theorem m_inv {h0 : mm_H} (x : Int64) {p : Int64} (hp : ¬ p = 0) : mm_TC kM 81 [.long x, .long p] h0 (fun v h => (∃ z, v = some (.long z)) ∧ h = h0) := by
  refine mm_TC.of (M := kq_81) rfl rfl ?_
  refine mm_T.s rfl rfl rfl (fun _ => rfl) ?_
  refine mm_T.s rfl rfl rfl (fun _ => rfl) ?_
  refine mm_T.s rfl rfl rfl (fun _ => rfl) ?_
  refine mm_T.s rfl rfl rfl (fun _ => rfl) ?_
  refine mm_T.s rfl rfl rfl (fun _ => rfl) ?_
  refine mm_T.s rfl rfl rfl (fun _ => rfl) ?_
  refine mm_T.s rfl rfl rfl (fun _ => rfl) ?_
  refine mm_T.s rfl rfl rfl (fun _ => rfl) ?_
  refine mm_T.wf (P := fun m L h => ∃ w a e, m = e.toInt.toNat ∧ L = [some (.long x), none, some (.long p), none, some (.long w), none, some (.long a), none, some (.long e), none] ∧ h = h0) ?_ _ _ _ ⟨_, _, _, rfl, rfl, rfl⟩
  rintro m _ _ ⟨w, a, e, rfl, rfl, rfl⟩ K
  refine mm_T.s rfl rfl rfl (fun _ => rfl) ?_
  refine mm_T.s rfl rfl rfl (fun _ => rfl) ?_
  refine mm_T.s rfl rfl rfl (fun _ => rfl) ?_
  refine mm_T.cz rfl rfl (fun hb17 => ?_) (fun hb17 => ?_)
  · skip
    refine mm_T.s rfl rfl rfl (fun _ => rfl) ?_
    exact mm_T.ret rfl rfl rfl (⟨⟨_, rfl⟩, rfl⟩)
  · skip
    refine mm_T.s rfl rfl rfl (fun _ => rfl) ?_
    refine mm_T.s rfl rfl rfl (fun _ => rfl) ?_
    refine mm_T.s rfl rfl rfl (fun _ => rfl) ?_
    refine mm_T.s rfl rfl rfl (fun _ => rfl) ?_
    refine mm_T.s rfl rfl rfl (fun _ => rfl) ?_
    refine mm_T.cz rfl rfl (fun hb28 => ?_) (fun hb28 => ?_)
    · skip
      refine mm_T.s rfl rfl rfl (fun _ => rfl) ?_
      refine mm_T.s rfl rfl rfl (fun _ => rfl) ?_
      refine mm_T.s rfl rfl rfl (fun _ => rfl) ?_
      refine mm_T.s rfl rfl rfl (fun _ => rfl) ?_
      refine mm_T.s rfl rfl rfl (fun _ => rfl) ?_
      refine mm_T.s rfl rfl rfl (fun _ => rfl) ?_
      refine mm_T.s rfl rfl rfl (fun _ => if_neg hp) ?_
      refine mm_T.s rfl rfl rfl (fun _ => rfl) ?_
      refine mm_T.s rfl rfl rfl (fun _ => rfl) ?_
      refine mm_T.s rfl rfl rfl (fun _ => rfl) ?_
      refine mm_T.s rfl rfl rfl (fun _ => rfl) ?_
      refine mm_T.s rfl rfl rfl (fun _ => rfl) ?_
      refine mm_T.s rfl rfl rfl (fun _ => rfl) ?_
      exact K _ _ _ (x_half hb17) ⟨_, _, _, rfl, rfl, rfl⟩
    · skip
      refine mm_T.s rfl rfl rfl (fun _ => rfl) ?_
      refine mm_T.s rfl rfl rfl (fun _ => rfl) ?_
      refine mm_T.s rfl rfl rfl (fun _ => rfl) ?_
      refine mm_T.s rfl rfl rfl (fun _ => rfl) ?_
      refine mm_T.s rfl rfl rfl (fun _ => if_neg hp) ?_
      refine mm_T.s rfl rfl rfl (fun _ => rfl) ?_
      refine mm_T.s rfl rfl rfl (fun _ => rfl) ?_
      refine mm_T.s rfl rfl rfl (fun _ => rfl) ?_
      refine mm_T.s rfl rfl rfl (fun _ => rfl) ?_
      refine mm_T.s rfl rfl rfl (fun _ => rfl) ?_
      refine mm_T.s rfl rfl rfl (fun _ => rfl) ?_
      refine mm_T.s rfl rfl rfl (fun _ => if_neg hp) ?_
      refine mm_T.s rfl rfl rfl (fun _ => rfl) ?_
      refine mm_T.s rfl rfl rfl (fun _ => rfl) ?_
      refine mm_T.s rfl rfl rfl (fun _ => rfl) ?_
      refine mm_T.s rfl rfl rfl (fun _ => rfl) ?_
      refine mm_T.s rfl rfl rfl (fun _ => rfl) ?_
      refine mm_T.s rfl rfl rfl (fun _ => rfl) ?_
      exact K _ _ _ (x_half hb17) ⟨_, _, _, rfl, rfl, rfl⟩
/-- rows a and b exchanged, in the first i columns -/
def x_swp (wo : Nat → Int64) (a b i p q : Nat) : Int64 := if q < i then wo (48 * (if p = a then b else if p = b then a else p) + q) else wo (48 * p + q)
theorem x_swp_s {wo wo1 : Nat → Int64} {a b i : Nat} (ha : a < 48) (hb : b < 48) (hi : i < 48) (hw : ∀ p q, p < 48 → q < 48 → wo1 (48 * p + q) = x_swp wo a b i p q) : ∀ p q, p < 48 → q < 48 → vp_updL (vp_updL wo1 (48 * a + i) (wo1 (48 * b + i))) (48 * b + i) (wo1 (48 * a + i)) (48 * p + q) = x_swp wo a b (i + 1) p q := by
  intro p q hp hq
  have z1 := hw a i ha hi
  have z2 := hw b i hb hi
  have z3 := hw p q hp hq
  rw [x_ul2 _ hi hq, x_ul2 _ hi hq]
  unfold x_swp at z1 z2 z3 ⊢
  rw [if_neg (Nat.lt_irrefl i)] at z1 z2
  by_cases e : q = i
  · subst e
    rw [if_neg (Nat.lt_irrefl q)] at z3
    rw [if_pos (Nat.lt_succ_self q)]
    by_cases e2 : p = b
    · rw [if_pos ⟨e2, rfl⟩, z1]
      by_cases e1 : p = a
      · rw [if_pos e1, ← e1, ← e2]
      · rw [if_neg e1, if_pos e2]
    · rw [if_neg (fun h => e2 h.1)]
      by_cases e1 : p = a
      · rw [if_pos ⟨e1, rfl⟩, if_pos e1, z2]
      · rw [if_neg (fun h => e1 h.1), if_neg e1, if_neg e2, z3]
  · rw [if_neg (fun h => e h.2), if_neg (fun h => e h.2), z3]
    by_cases l : q < i
    · rw [if_pos l, if_pos (show q < i + 1 from by omega)]
    · rw [if_neg l, if_neg (show ¬ q < i + 1 from by omega)]
theorem m_ex {c : Nat → mm_C} {has ke f cy sp e1 e2 e3 : Nat → Int32} {ma wo dv : Nat → Int64} {ro co di tr : Int32} {a b : Nat} (ha : a < 48) (hb : b < 48) : mm_TC kM 82 [.ref 25, .int (nI a), .int (nI b)] (kD c has ke f ma wo dv cy sp e1 e2 e3 ro co di tr) (fun v h => v = none ∧ ∃ wo1, (∀ p q, p < 48 → q < 48 → wo1 (48 * p + q) = x_swp wo a b 48 p q) ∧ h = (kD c has ke f ma wo1 dv cy sp e1 e2 e3 ro co di tr)) := by
  refine mm_TC.of (M := kq_82) rfl rfl ?_
  refine mm_T.s rfl rfl rfl (fun _ => rfl) ?_
  refine mm_T.s rfl rfl rfl (fun _ => rfl) ?_
  refine mm_T.up (n := 48) (P := fun i L h => ∃ x3 y4 y5 wo1, x3 = nI i ∧ (∀ p q, p < 48 → q < 48 → wo1 (48 * p + q) = x_swp wo a b i p q) ∧ L = [some (.ref 25), some (.int (nI a)), some (.int (nI b)), some (.int x3), y4, y5] ∧ h = (kD c has ke f ma wo1 dv cy sp e1 e2 e3 ro co di tr)) ?_ ?_ 0 (Nat.zero_le _) _ _ ⟨_, _, _, _, rfl, fun p q _ _ => by unfold x_swp; rw [if_neg (Nat.not_lt_zero q)], rfl, rfl⟩
  · skip
    rintro i _ _ hi ⟨x3, y4, y5, wo1, rfl, hw, rfl, rfl⟩ K
    refine mm_T.s rfl rfl rfl (fun _ => rfl) ?_
    refine mm_T.s rfl rfl rfl (fun _ => rfl) ?_
    refine mm_T.s rfl rfl rfl (fun _ => if_neg (nI_ge (b := 48) hi (by decide))) ?_
    refine mm_T.s rfl rfl rfl (fun _ => rfl) ?_
    refine mm_T.gf rfl rfl rfl rfl rfl ?_
    refine mm_T.s rfl rfl rfl (fun _ => rfl) ?_
    refine mm_T.s rfl rfl rfl (fun _ => rfl) ?_
    refine mm_T.s rfl rfl rfl (fun _ => rfl) ?_
    refine mm_T.s rfl rfl rfl (fun _ => rfl) ?_
    refine mm_T.s rfl rfl rfl (fun _ => rfl) ?_
    refine mm_T.ti _ (x_84 _ _) ?_
    refine mm_T.laN rfl rfl rfl (by omega) (by decide) rfl ?_
    refine mm_T.s rfl rfl rfl (fun _ => rfl) ?_
    refine mm_T.s rfl rfl rfl (fun _ => rfl) ?_
    refine mm_T.gf rfl rfl rfl rfl rfl ?_
    refine mm_T.s rfl rfl rfl (fun _ => rfl) ?_
    refine mm_T.s rfl rfl rfl (fun _ => rfl) ?_
    refine mm_T.s rfl rfl rfl (fun _ => rfl) ?_
    refine mm_T.s rfl rfl rfl (fun _ => rfl) ?_
    refine mm_T.s rfl rfl rfl (fun _ => rfl) ?_
    refine mm_T.ti _ (x_84 _ _) ?_
    refine mm_T.s rfl rfl rfl (fun _ => rfl) ?_
    refine mm_T.gf rfl rfl rfl rfl rfl ?_
    refine mm_T.s rfl rfl rfl (fun _ => rfl) ?_
    refine mm_T.s rfl rfl rfl (fun _ => rfl) ?_
    refine mm_T.s rfl rfl rfl (fun _ => rfl) ?_
    refine mm_T.s rfl rfl rfl (fun _ => rfl) ?_
    refine mm_T.s rfl rfl rfl (fun _ => rfl) ?_
    refine mm_T.ti _ (x_84 _ _) ?_
    refine mm_T.laN rfl rfl rfl (by omega) (by decide) rfl ?_
    refine mm_T.lsN rfl rfl rfl (by omega) (by decide) rfl ?_
    refine mm_T.s rfl rfl rfl (fun _ => rfl) ?_
    refine mm_T.gf rfl rfl rfl rfl rfl ?_
    refine mm_T.s rfl rfl rfl (fun _ => rfl) ?_
    refine mm_T.s rfl rfl rfl (fun _ => rfl) ?_
    refine mm_T.s rfl rfl rfl (fun _ => rfl) ?_
    refine mm_T.s rfl rfl rfl (fun _ => rfl) ?_
    refine mm_T.s rfl rfl rfl (fun _ => rfl) ?_
    refine mm_T.ti _ (x_84 _ _) ?_
    refine mm_T.s rfl rfl rfl (fun _ => rfl) ?_
    refine mm_T.lsN rfl rfl rfl (by omega) (by decide) rfl ?_
    refine mm_T.s rfl rfl rfl (fun _ => rfl) ?_
    refine mm_T.s rfl rfl rfl (fun _ => rfl) ?_
    exact K _ _ ⟨_, _, _, _, nI_1 i, x_swp_s ha hb hi hw, rfl, rfl⟩
  · skip
    rintro _ _ ⟨x3, y4, y5, wo1, rfl, hw, rfl, rfl⟩
    refine mm_T.s rfl rfl rfl (fun _ => rfl) ?_
    refine mm_T.s rfl rfl rfl (fun _ => rfl) ?_
    refine mm_T.s rfl rfl rfl (fun _ => rfl) ?_
    exact mm_T.ret rfl rfl rfl (⟨rfl, _, hw, rfl⟩)
theorem m_sweep {c : Nat → mm_C} {has ke f cy sp e1 e2 e3 : Nat → Int32} {ma wo dv : Nat → Int64} {di tr : Int32} {Rn Cn : Nat} (hR : Rn ≤ 48) (hC : Cn ≤ 48) {t j : Nat} (ht : t < Rn) (hj : j ≤ Cn) (hj8 : j < 48) {p : Int64} (hp : ¬ p = 0) : mm_TC kM 84 [.ref 25, .int (nI t), .int (nI j), .long p] (kD c has ke f ma wo dv cy sp e1 e2 e3 (nI Rn) (nI Cn) di tr) (fun v h => v = none ∧ ∃ wo1, h = (kD c has ke f ma wo1 dv cy sp e1 e2 e3 (nI Rn) (nI Cn) di tr)) := by
  refine mm_TC.of (M := kq_84) rfl rfl ?_
  refine mm_T.s rfl rfl rfl (fun _ => rfl) ?_
  refine mm_T.gf rfl rfl rfl rfl rfl ?_
  refine mm_T.s rfl rfl rfl (fun _ => rfl) ?_
  refine mm_T.s rfl rfl rfl (fun _ => rfl) ?_
  refine mm_T.s rfl rfl rfl (fun _ => rfl) ?_
  refine mm_T.s rfl rfl rfl (fun _ => rfl) ?_
  refine mm_T.s rfl rfl rfl (fun _ => rfl) ?_
  refine mm_T.ti _ (x_84 _ _) ?_
  refine mm_T.laN rfl rfl rfl (by omega) (by decide) rfl ?_
  refine mm_T.s rfl rfl rfl (fun _ => rfl) ?_
  refine mm_T.icw rfl rfl rfl rfl rfl (m_inv _ hp) ?_
  rintro _ _ ⟨⟨z, rfl⟩, rfl⟩
  refine mm_T.s rfl rfl rfl (fun _ => rfl) ?_
  refine mm_T.s rfl rfl rfl (fun _ => rfl) ?_
  refine mm_T.s rfl rfl rfl (fun _ => rfl) ?_
  refine mm_T.s rfl rfl rfl (fun _ => rfl) ?_
  refine mm_T.ti _ (nI_1 t) ?_
  refine mm_T.s rfl rfl rfl (fun _ => rfl) ?_
  refine mm_T.up (n := Rn) (P := fun i L h => ∃ x7 y8 y9 y10 y11 y12 wo1, x7 = nI i ∧ L = [some (.ref 25), some (.int (nI t)), some (.int (nI j)), some (.long p), none, some (.long z), none, some (.int x7), y8, y9, y10, y11, y12] ∧ h = (kD c has ke f ma wo1 dv cy sp e1 e2 e3 (nI Rn) (nI Cn) di tr)) ?_ ?_ (t + 1) ht _ _ ⟨_, _, _, _, _, _, _, rfl, rfl, rfl⟩
  · skip
    rintro i0 _ _ hi0 ⟨x7, y8, y9, y10, y11, y12, wo1, rfl, rfl, rfl⟩ K
    refine mm_T.s rfl rfl rfl (fun _ => rfl) ?_
    refine mm_T.s rfl rfl rfl (fun _ => rfl) ?_
    refine mm_T.gf rfl rfl rfl rfl rfl ?_
    refine mm_T.s rfl rfl rfl (fun _ => if_neg (nI_ge hi0 (by omega))) ?_
    refine mm_T.s rfl rfl rfl (fun _ => rfl) ?_
    refine mm_T.gf rfl rfl rfl rfl rfl ?_
    refine mm_T.s rfl rfl rfl (fun _ => rfl) ?_
    refine mm_T.s rfl rfl rfl (fun _ => rfl) ?_
    refine mm_T.s rfl rfl rfl (fun _ => rfl) ?_
    refine mm_T.s rfl rfl rfl (fun _ => rfl) ?_
    refine mm_T.s rfl rfl rfl (fun _ => rfl) ?_
    refine mm_T.ti _ (x_84 _ _) ?_
    refine mm_T.laN rfl rfl rfl (by omega) (by decide) rfl ?_
    refine mm_T.s rfl rfl rfl (fun _ => rfl) ?_
    refine mm_T.s rfl rfl rfl (fun _ => rfl) ?_
    refine mm_T.s rfl rfl rfl (fun _ => rfl) ?_
    refine mm_T.s rfl rfl rfl (fun _ => if_neg hp) ?_
    refine mm_T.s rfl rfl rfl (fun _ => rfl) ?_
    refine mm_T.s rfl rfl rfl (fun _ => rfl) ?_
    refine mm_T.s rfl rfl rfl (fun _ => rfl) ?_
    refine mm_T.up (n := Cn) (P := fun i L h => ∃ x10 y11 y12 wo2 q, x10 = nI i ∧ L = [some (.ref 25), some (.int (nI t)), some (.int (nI j)), some (.long p), none, some (.long z), none, some (.int (nI i0)), some (.long q), none, some (.int x10), y11, y12] ∧ h = (kD c has ke f ma wo2 dv cy sp e1 e2 e3 (nI Rn) (nI Cn) di tr)) ?_ ?_ j hj _ _ ⟨_, _, _, _, _, rfl, rfl, rfl⟩
    · skip
      rintro i _ _ hi ⟨x10, y11, y12, wo2, q, rfl, rfl, rfl⟩ K2
      refine mm_T.s rfl rfl rfl (fun _ => rfl) ?_
      refine mm_T.s rfl rfl rfl (fun _ => rfl) ?_
      refine mm_T.gf rfl rfl rfl rfl rfl ?_
      refine mm_T.s rfl rfl rfl (fun _ => if_neg (nI_ge hi (by omega))) ?_
      refine mm_T.s rfl rfl rfl (fun _ => rfl) ?_
      refine mm_T.gf rfl rfl rfl rfl rfl ?_
      refine mm_T.s rfl rfl rfl (fun _ => rfl) ?_
      refine mm_T.s rfl rfl rfl (fun _ => rfl) ?_
      refine mm_T.s rfl rfl rfl (fun _ => rfl) ?_
      refine mm_T.s rfl rfl rfl (fun _ => rfl) ?_
      refine mm_T.s rfl rfl rfl (fun _ => rfl) ?_
      refine mm_T.ti _ (x_84 _ _) ?_
      refine mm_T.laN rfl rfl rfl (by omega) (by decide) rfl ?_
      refine mm_T.s rfl rfl rfl (fun _ => rfl) ?_
      refine mm_T.s rfl rfl rfl (fun _ => rfl) ?_
      refine mm_T.gf rfl rfl rfl rfl rfl ?_
      refine mm_T.s rfl rfl rfl (fun _ => rfl) ?_
      refine mm_T.s rfl rfl rfl (fun _ => rfl) ?_
      refine mm_T.s rfl rfl rfl (fun _ => rfl) ?_
      refine mm_T.s rfl rfl rfl (fun _ => rfl) ?_
      refine mm_T.s rfl rfl rfl (fun _ => rfl) ?_
      refine mm_T.ti _ (x_84 _ _) ?_
      refine mm_T.laN rfl rfl rfl (by omega) (by decide) rfl ?_
      refine mm_T.s rfl rfl rfl (fun _ => rfl) ?_
      refine mm_T.s rfl rfl rfl (fun _ => rfl) ?_
      refine mm_T.s rfl rfl rfl (fun _ => if_neg hp) ?_
      refine mm_T.s rfl rfl rfl (fun _ => rfl) ?_
      refine mm_T.s rfl rfl rfl (fun _ => rfl) ?_
      refine mm_T.s rfl rfl rfl (fun _ => if_neg hp) ?_
      refine mm_T.s rfl rfl rfl (fun _ => rfl) ?_
      refine mm_T.s rfl rfl rfl (fun _ => rfl) ?_
      refine mm_T.gf rfl rfl rfl rfl rfl ?_
      refine mm_T.s rfl rfl rfl (fun _ => rfl) ?_
      refine mm_T.s rfl rfl rfl (fun _ => rfl) ?_
      refine mm_T.s rfl rfl rfl (fun _ => rfl) ?_
      refine mm_T.s rfl rfl rfl (fun _ => rfl) ?_
      refine mm_T.s rfl rfl rfl (fun _ => rfl) ?_
      refine mm_T.ti _ (x_84 _ _) ?_
      refine mm_T.s rfl rfl rfl (fun _ => rfl) ?_
      refine mm_T.s rfl rfl rfl (fun _ => rfl) ?_
      refine mm_T.s rfl rfl rfl (fun _ => rfl) ?_
      refine mm_T.cz rfl rfl (fun hb113 => ?_) (fun hb113 => ?_)
      · skip
        refine mm_T.s rfl rfl rfl (fun _ => rfl) ?_
        refine mm_T.lsN rfl rfl rfl (by omega) (by decide) rfl ?_
        refine mm_T.s rfl rfl rfl (fun _ => rfl) ?_
        refine mm_T.s rfl rfl rfl (fun _ => rfl) ?_
        exact K2 _ _ ⟨_, _, _, _, _, nI_1 i, rfl, rfl⟩
      · skip
        refine mm_T.s rfl rfl rfl (fun _ => rfl) ?_
        refine mm_T.s rfl rfl rfl (fun _ => rfl) ?_
        refine mm_T.s rfl rfl rfl (fun _ => rfl) ?_
        refine mm_T.s rfl rfl rfl (fun _ => rfl) ?_
        refine mm_T.lsN rfl rfl rfl (by omega) (by decide) rfl ?_
        refine mm_T.s rfl rfl rfl (fun _ => rfl) ?_
        refine mm_T.s rfl rfl rfl (fun _ => rfl) ?_
        exact K2 _ _ ⟨_, _, _, _, _, nI_1 i, rfl, rfl⟩
    · skip
      rintro _ _ ⟨x10, y11, y12, wo2, q, rfl, rfl, rfl⟩
      refine mm_T.s rfl rfl rfl (fun _ => rfl) ?_
      refine mm_T.s rfl rfl rfl (fun _ => rfl) ?_
      refine mm_T.gf rfl rfl rfl rfl rfl ?_
      refine mm_T.s rfl rfl rfl (fun _ => if_pos (nI_le (Nat.le_refl _) (by omega))) ?_
      refine mm_T.s rfl rfl rfl (fun _ => rfl) ?_
      refine mm_T.s rfl rfl rfl (fun _ => rfl) ?_
      exact K _ _ ⟨_, _, _, _, _, _, _, nI_1 i0, rfl, rfl⟩
  · skip
    rintro _ _ ⟨x7, y8, y9, y10, y11, y12, wo1, rfl, rfl, rfl⟩
    refine mm_T.s rfl rfl rfl (fun _ => rfl) ?_
    refine mm_T.s rfl rfl rfl (fun _ => rfl) ?_
    refine mm_T.gf rfl rfl rfl rfl rfl ?_
    refine mm_T.s rfl rfl rfl (fun _ => if_pos (nI_le (Nat.le_refl _) (by omega))) ?_
    exact mm_T.ret rfl rfl rfl (⟨rfl, _, rfl⟩)
theorem m_rm {c : Nat → mm_C} {has ke f cy sp e1 e2 e3 : Nat → Int32} {ma wo dv : Nat → Int64} {di tr : Int32} {Rn Cn : Nat} (hR : Rn ≤ 48) (hC : Cn ≤ 48) {p : Int64} (hp : ¬ p = 0) : mm_TC kM 83 [.ref 25, .long p] (kD c has ke f ma wo dv cy sp e1 e2 e3 (nI Rn) (nI Cn) di tr) (fun v h => (∃ x, v = some (.int x)) ∧ ∃ wo1, h = (kD c has ke f ma wo1 dv cy sp e1 e2 e3 (nI Rn) (nI Cn) di tr)) := by
  refine mm_TC.of (M := kq_83) rfl rfl ?_
  refine mm_T.s rfl rfl rfl (fun _ => rfl) ?_
  refine mm_T.s rfl rfl rfl (fun _ => rfl) ?_
  refine mm_T.up (n := 2304) (P := fun i L h => ∃ x3 y4 y5 wo1, x3 = nI i ∧ L = [some (.ref 25), some (.long p), none, some (.int x3), y4, y5] ∧ h = (kD c has ke f ma wo1 dv cy sp e1 e2 e3 (nI Rn) (nI Cn) di tr)) ?_ ?_ 0 (Nat.zero_le _) _ _ ⟨_, _, _, _, rfl, rfl, rfl⟩
  · skip
    rintro i _ _ hi ⟨x3, y4, y5, wo1, rfl, rfl, rfl⟩ K
    refine mm_T.s rfl rfl rfl (fun _ => rfl) ?_
    refine mm_T.s rfl rfl rfl (fun _ => rfl) ?_
    refine mm_T.s rfl rfl rfl (fun _ => if_neg (nI_ge (b := 2304) hi (by decide))) ?_
    refine mm_T.s rfl rfl rfl (fun _ => rfl) ?_
    refine mm_T.gf rfl rfl rfl rfl rfl ?_
    refine mm_T.s rfl rfl rfl (fun _ => rfl) ?_
    refine mm_T.laN rfl rfl rfl (by omega) (by decide) rfl ?_
    refine mm_T.s rfl rfl rfl (fun _ => rfl) ?_
    refine mm_T.s rfl rfl rfl (fun _ => if_neg hp) ?_
    refine mm_T.s rfl rfl rfl (fun _ => rfl) ?_
    refine mm_T.s rfl rfl rfl (fun _ => rfl) ?_
    refine mm_T.gf rfl rfl rfl rfl rfl ?_
    refine mm_T.s rfl rfl rfl (fun _ => rfl) ?_
    refine mm_T.s rfl rfl rfl (fun _ => rfl) ?_
    refine mm_T.s rfl rfl rfl (fun _ => rfl) ?_
    refine mm_T.s rfl rfl rfl (fun _ => rfl) ?_
    refine mm_T.cz rfl rfl (fun hb28 => ?_) (fun hb28 => ?_)
    · skip
      refine mm_T.s rfl rfl rfl (fun _ => rfl) ?_
      refine mm_T.lsN rfl rfl rfl (by omega) (by decide) rfl ?_
      refine mm_T.s rfl rfl rfl (fun _ => rfl) ?_
      refine mm_T.s rfl rfl rfl (fun _ => rfl) ?_
      exact K _ _ ⟨_, _, _, _, nI_1 i, rfl, rfl⟩
    · skip
      refine mm_T.s rfl rfl rfl (fun _ => rfl) ?_
      refine mm_T.s rfl rfl rfl (fun _ => rfl) ?_
      refine mm_T.s rfl rfl rfl (fun _ => rfl) ?_
      refine mm_T.s rfl rfl rfl (fun _ => rfl) ?_
      refine mm_T.lsN rfl rfl rfl (by omega) (by decide) rfl ?_
      refine mm_T.s rfl rfl rfl (fun _ => rfl) ?_
      refine mm_T.s rfl rfl rfl (fun _ => rfl) ?_
      exact K _ _ ⟨_, _, _, _, nI_1 i, rfl, rfl⟩
  · skip
    rintro _ _ ⟨x3, y4, y5, wo0, rfl, rfl, rfl⟩
    refine mm_T.s rfl rfl rfl (fun _ => rfl) ?_
    refine mm_T.s rfl rfl rfl (fun _ => rfl) ?_
    refine mm_T.s rfl rfl rfl (fun _ => rfl) ?_
    refine mm_T.s rfl rfl rfl (fun _ => rfl) ?_
    refine mm_T.s rfl rfl rfl (fun _ => rfl) ?_
    refine mm_T.s rfl rfl rfl (fun _ => rfl) ?_
    refine mm_T.s rfl rfl rfl (fun _ => rfl) ?_
    refine mm_T.up (n := Cn) (P := fun i L h => ∃ rk x3 x4 y5 wo1, rk ≤ Rn ∧ x3 = nI rk ∧ x4 = nI i ∧ L = [some (.ref 25), some (.long p), none, some (.int x3), some (.int x4), y5] ∧ h = (kD c has ke f ma wo1 dv cy sp e1 e2 e3 (nI Rn) (nI Cn) di tr)) ?_ ?_ 0 (Nat.zero_le _) _ _ ⟨0, _, _, _, _, Nat.zero_le _, rfl, rfl, rfl, rfl⟩
    · skip
      rintro i0 _ _ hi0 ⟨rk, x3, x4, y5, wo1, hrk1, rfl, rfl, rfl, rfl⟩ K
      refine mm_T.s rfl rfl rfl (fun _ => rfl) ?_
      refine mm_T.s rfl rfl rfl (fun _ => rfl) ?_
      refine mm_T.gf rfl rfl rfl rfl rfl ?_
      refine mm_T.s rfl rfl rfl (fun _ => if_neg (nI_ge hi0 (by omega))) ?_
      refine mm_T.s rfl rfl rfl (fun _ => rfl) ?_
      refine mm_T.s rfl rfl rfl (fun _ => rfl) ?_
      refine mm_T.gf rfl rfl rfl rfl rfl ?_
      refine mm_T.ci rfl rfl (fun hb66 => ?_) (fun hb66 => ?_)
      · skip
        refine mm_T.s rfl rfl rfl (fun _ => rfl) ?_
        exact mm_T.ret rfl rfl rfl (⟨⟨_, rfl⟩, _, rfl⟩)
      · skip
        have hrk : rk < Rn := Nat.lt_of_not_le (fun q => hb66 (nI_le q (by omega)))
        refine mm_T.s rfl rfl rfl (fun _ => rfl) ?_
        refine mm_T.s rfl rfl rfl (fun _ => rfl) ?_
        refine mm_T.up (n := Rn) (P := fun i L h => ∃ x5, x5 = nI i ∧ L = [some (.ref 25), some (.long p), none, some (.int (nI rk)), some (.int (nI i0)), some (.int x5)] ∧ h = (kD c has ke f ma wo1 dv cy sp e1 e2 e3 (nI Rn) (nI Cn) di tr)) ?_ ?_ rk hrk1 _ _ ⟨_, rfl, rfl, rfl⟩
        · skip
          rintro i _ _ hi ⟨x5, rfl, rfl, rfl⟩ K2
          refine mm_T.s rfl rfl rfl (fun _ => rfl) ?_
          refine mm_T.s rfl rfl rfl (fun _ => rfl) ?_
          refine mm_T.gf rfl rfl rfl rfl rfl ?_
          refine mm_T.s rfl rfl rfl (fun _ => if_neg (nI_ge hi (by omega))) ?_
          refine mm_T.s rfl rfl rfl (fun _ => rfl) ?_
          refine mm_T.gf rfl rfl rfl rfl rfl ?_
          refine mm_T.s rfl rfl rfl (fun _ => rfl) ?_
          refine mm_T.s rfl rfl rfl (fun _ => rfl) ?_
          refine mm_T.s rfl rfl rfl (fun _ => rfl) ?_
          refine mm_T.s rfl rfl rfl (fun _ => rfl) ?_
          refine mm_T.s rfl rfl rfl (fun _ => rfl) ?_
          refine mm_T.ti _ (x_84 _ _) ?_
          refine mm_T.laN rfl rfl rfl (by omega) (by decide) rfl ?_
          refine mm_T.s rfl rfl rfl (fun _ => rfl) ?_
          refine mm_T.s rfl rfl rfl (fun _ => rfl) ?_
          refine mm_T.cz rfl rfl (fun hb96 => ?_) (fun hb96 => ?_)
          · skip
            refine mm_T.s rfl rfl rfl (fun _ => rfl) ?_
            refine mm_T.s rfl rfl rfl (fun _ => rfl) ?_
            refine mm_T.gf rfl rfl rfl rfl rfl ?_
            refine mm_T.s rfl rfl rfl (fun _ => if_neg (nI_ge hi (by omega))) ?_
            refine mm_T.s rfl rfl rfl (fun _ => rfl) ?_
            refine mm_T.s rfl rfl rfl (fun _ => rfl) ?_
            refine mm_T.s rfl rfl rfl (fun _ => rfl) ?_
            refine mm_T.ivw rfl rfl rfl rfl rfl rfl (m_ex (by omega) (by omega)) ?_
            rintro _ _ ⟨rfl, wo2, hw2, rfl⟩
            refine mm_T.s rfl rfl rfl (fun _ => rfl) ?_
            refine mm_T.s rfl rfl rfl (fun _ => rfl) ?_
            refine mm_T.s rfl rfl rfl (fun _ => rfl) ?_
            refine mm_T.s rfl rfl rfl (fun _ => rfl) ?_
            refine mm_T.ivw rfl rfl rfl rfl rfl rfl (m_sweep hR hC hrk (by omega) (by omega) hp) ?_
            rintro _ _ ⟨rfl, wo3, rfl⟩
            refine mm_T.s rfl rfl rfl (fun _ => rfl) ?_
            refine mm_T.s rfl rfl rfl (fun _ => rfl) ?_
            refine mm_T.s rfl rfl rfl (fun _ => rfl) ?_
            exact K _ _ ⟨_, _, _, _, _, hrk, nI_1 rk, nI_1 i0, rfl, rfl⟩
          · skip
            refine mm_T.s rfl rfl rfl (fun _ => rfl) ?_
            refine mm_T.s rfl rfl rfl (fun _ => rfl) ?_
            exact K2 _ _ ⟨_, nI_1 i, rfl, rfl⟩
        · skip
          rintro _ _ ⟨x5, rfl, rfl, rfl⟩
          refine mm_T.s rfl rfl rfl (fun _ => rfl) ?_
          refine mm_T.s rfl rfl rfl (fun _ => rfl) ?_
          refine mm_T.gf rfl rfl rfl rfl rfl ?_
          refine mm_T.s rfl rfl rfl (fun _ => if_pos (nI_le (Nat.le_refl _) (by omega))) ?_
          refine mm_T.s rfl rfl rfl (fun _ => rfl) ?_
          refine mm_T.s rfl rfl rfl (fun _ => rfl) ?_
          refine mm_T.gf rfl rfl rfl rfl rfl ?_
          refine mm_T.s rfl rfl rfl (fun _ => if_pos (nI_le (Nat.le_refl _) (by omega))) ?_
          refine mm_T.s rfl rfl rfl (fun _ => rfl) ?_
          refine mm_T.s rfl rfl rfl (fun _ => rfl) ?_
          exact K _ _ ⟨_, _, _, _, _, hrk1, rfl, nI_1 i0, rfl, rfl⟩
    · skip
      rintro _ _ ⟨rk, x3, x4, y5, wo1, hrk1, rfl, rfl, rfl, rfl⟩
      refine mm_T.s rfl rfl rfl (fun _ => rfl) ?_
      refine mm_T.s rfl rfl rfl (fun _ => rfl) ?_
      refine mm_T.gf rfl rfl rfl rfl rfl ?_
      refine mm_T.s rfl rfl rfl (fun _ => if_pos (nI_le (Nat.le_refl _) (by omega))) ?_
      refine mm_T.s rfl rfl rfl (fun _ => rfl) ?_
      exact mm_T.ret rfl rfl rfl (⟨⟨_, rfl⟩, _, rfl⟩)
theorem m_ra {c : Nat → mm_C} {has ke f cy sp e1 e2 e3 : Nat → Int32} {ma wo dv : Nat → Int64} {di tr : Int32} {Rn Cn : Nat} (hR : Rn ≤ 48) (hC : Cn ≤ 48) : mm_TC kM 85 [.ref 25] (kD c has ke f ma wo dv cy sp e1 e2 e3 (nI Rn) (nI Cn) di tr) (fun v h => (∃ x, v = some (.int x)) ∧ ∃ wo1, h = (kD c has ke f ma wo1 dv cy sp e1 e2 e3 (nI Rn) (nI Cn) di tr)) := by
  refine mm_TC.of (M := kq_85) rfl rfl ?_
  refine mm_T.s rfl rfl rfl (fun _ => rfl) ?_
  refine mm_T.s rfl rfl rfl (fun _ => rfl) ?_
  refine mm_T.ivw rfl rfl rfl rfl rfl rfl (m_rm hR hC (by decide)) ?_
  rintro _ _ ⟨⟨x1, rfl⟩, wo1, rfl⟩
  refine mm_T.s rfl rfl rfl (fun _ => rfl) ?_
  refine mm_T.s rfl rfl rfl (fun _ => rfl) ?_
  refine mm_T.s rfl rfl rfl (fun _ => rfl) ?_
  refine mm_T.ivw rfl rfl rfl rfl rfl rfl (m_rm hR hC (by decide)) ?_
  rintro _ _ ⟨⟨x2, rfl⟩, wo2, rfl⟩
  refine mm_T.s rfl rfl rfl (fun _ => rfl) ?_
  refine mm_T.s rfl rfl rfl (fun _ => rfl) ?_
  refine mm_T.s rfl rfl rfl (fun _ => rfl) ?_
  refine mm_T.ci rfl rfl (fun hb18 => ?_) (fun hb18 => ?_)
  · skip
    refine mm_T.s rfl rfl rfl (fun _ => rfl) ?_
    exact mm_T.ret rfl rfl rfl (⟨⟨_, rfl⟩, _, rfl⟩)
  · skip
    refine mm_T.s rfl rfl rfl (fun _ => rfl) ?_
    refine mm_T.s rfl rfl rfl (fun _ => rfl) ?_
    exact mm_T.ret rfl rfl rfl (⟨⟨_, rfl⟩, _, rfl⟩)
theorem m_br {c : Nat → mm_C} {has ke f cy sp e1 e2 e3 : Nat → Int32} {ma wo dv : Nat → Int64} {ro co di tr : Int32} (hI : x_MI has) {n : Nat} (hn : n < 2) (k : Int32) : mm_TC kM 86 [.ref 25, .int (nI n), .int k] (kD c has ke f ma wo dv cy sp e1 e2 e3 ro co di tr) (fun v h => (∃ x, v = some (.int x)) ∧ ∃ ma1 wo1 ro1 co1, h = (kD c has ke f ma1 wo1 dv cy sp e1 e2 e3 ro1 co1 di tr)) := by
  have a1 := hI n hn k
  have a2 := hI n hn (k - 1)
  refine mm_TC.of (M := kq_86) rfl rfl ?_
  refine mm_T.s rfl rfl rfl (fun _ => rfl) ?_
  refine mm_T.s rfl rfl rfl (fun _ => rfl) ?_
  refine mm_T.s rfl rfl rfl (fun _ => rfl) ?_
  refine mm_T.ivw rfl rfl rfl rfl rfl rfl (m_bo hI hn k) ?_
  rintro _ _ ⟨rfl, ma1, _, rfl⟩
  refine mm_T.s rfl rfl rfl (fun _ => rfl) ?_
  refine mm_T.ivw rfl rfl rfl rfl rfl rfl (m_ra (by omega) (by omega)) ?_
  rintro _ _ ⟨⟨x1, rfl⟩, wo1, rfl⟩
  exact mm_T.ret rfl rfl rfl (⟨⟨_, rfl⟩, _, _, _, _, rfl⟩)
theorem x_01 {c : Int32} (h : c = 0 ∨ c = 1) : ∃ n, n < 2 ∧ c = nI n := by
  rcases h with rfl | rfl
  · exact ⟨0, by decide, rfl⟩
  · exact ⟨1, by decide, rfl⟩
/-- the reference's heap, its reckoning fields any -/
def x_GM (c : Nat → mm_C) (has ke f : Nat → Int32) (h : mm_H) : Prop := ∃ ma wo dv cy sp e1 e2 e3 ro co di tr, h = (kD c has ke f ma wo dv cy sp e1 e2 e3 ro co di tr)
theorem m_betti {c : Nat → mm_C} {has ke f cy sp e1 e2 e3 : Nat → Int32} {ma wo dv : Nat → Int64} {ro co di tr : Int32} (hI : x_MI has) (b k : Int32) : mm_TC kM 87 [.ref 25, .int b, .int k] (kD c has ke f ma wo dv cy sp e1 e2 e3 ro co di tr) (fun v h => (∃ x, v = some (.int x)) ∧ x_GM c has ke f h) := by
  refine mm_TC.of (M := kq_87) rfl rfl ?_
  by_cases hb : b = 0 ∨ b = 1
  · obtain ⟨n, hn, rfl⟩ := x_01 hb
    by_cases hk : k < 0 ∨ 3 < k
    · skip
      refine mm_T.s rfl rfl rfl (fun _ => rfl) ?_
      refine mm_T.ic rfl rfl rfl rfl rfl (x_isC1 hb) ?_
      refine mm_T.s rfl rfl rfl (fun _ => rfl) ?_
      refine mm_T.s rfl rfl rfl (fun _ => rfl) ?_
      refine mm_T.ic rfl rfl rfl rfl rfl (x_isD0 hk) ?_
      refine mm_T.s rfl rfl rfl (fun _ => rfl) ?_
      refine mm_T.s rfl rfl rfl (fun _ => rfl) ?_
      exact mm_T.ret rfl rfl rfl (⟨⟨_, rfl⟩, _, _, _, _, _, _, _, _, _, _, _, _, rfl⟩)
    · skip
      refine mm_T.s rfl rfl rfl (fun _ => rfl) ?_
      refine mm_T.ic rfl rfl rfl rfl rfl (x_isC1 hb) ?_
      refine mm_T.s rfl rfl rfl (fun _ => rfl) ?_
      refine mm_T.s rfl rfl rfl (fun _ => rfl) ?_
      refine mm_T.ic rfl rfl rfl rfl rfl (x_isD1 (fun q => hk (Or.inl q)) (fun q => hk (Or.inr q))) ?_
      refine mm_T.s rfl rfl rfl (fun _ => rfl) ?_
      refine mm_T.s rfl rfl rfl (fun _ => rfl) ?_
      refine mm_T.s rfl rfl rfl (fun _ => rfl) ?_
      refine mm_T.s rfl rfl rfl (fun _ => rfl) ?_
      refine mm_T.iv rfl rfl rfl rfl rfl rfl (g_many rfl rfl hn k) ?_
      refine mm_T.s rfl rfl rfl (fun _ => rfl) ?_
      refine mm_T.s rfl rfl rfl (fun _ => rfl) ?_
      refine mm_T.s rfl rfl rfl (fun _ => rfl) ?_
      refine mm_T.ivw rfl rfl rfl rfl rfl rfl (m_br hI hn k) ?_
      rintro _ _ ⟨⟨x1, rfl⟩, ma1, wo1, ro1, co1, rfl⟩
      refine mm_T.s rfl rfl rfl (fun _ => rfl) ?_
      refine mm_T.s rfl rfl rfl (fun _ => rfl) ?_
      refine mm_T.s rfl rfl rfl (fun _ => rfl) ?_
      refine mm_T.s rfl rfl rfl (fun _ => rfl) ?_
      refine mm_T.s rfl rfl rfl (fun _ => rfl) ?_
      refine mm_T.s rfl rfl rfl (fun _ => rfl) ?_
      refine mm_T.ivw rfl rfl rfl rfl rfl rfl (m_br hI hn (k + 1)) ?_
      rintro _ _ ⟨⟨x2, rfl⟩, ma2, wo2, ro2, co2, rfl⟩
      refine mm_T.s rfl rfl rfl (fun _ => rfl) ?_
      refine mm_T.s rfl rfl rfl (fun _ => rfl) ?_
      exact mm_T.ret rfl rfl rfl (⟨⟨_, rfl⟩, _, _, _, _, _, _, _, _, _, _, _, _, rfl⟩)
  · skip
    refine mm_T.s rfl rfl rfl (fun _ => rfl) ?_
    refine mm_T.ic rfl rfl rfl rfl rfl (x_isC0 hb) ?_
    refine mm_T.s rfl rfl rfl (fun _ => rfl) ?_
    refine mm_T.s rfl rfl rfl (fun _ => rfl) ?_
    exact mm_T.ret rfl rfl rfl (⟨⟨_, rfl⟩, _, _, _, _, _, _, _, _, _, _, _, _, rfl⟩)
theorem m_bm38 {c : Nat → mm_C} {has ke f cy sp e1 e2 e3 : Nat → Int32} {ma wo dv : Nat → Int64} {ro co di tr : Int32} (hI : x_MI has) (b k : Int32) {p z : Int32} (hz : z ≠ 0 → p ≠ 0) : mm_T kM none 88 38 [some (.ref 25), some (.int b), some (.int k), some (.int p), none, none] [.int z] (kD c has ke f ma wo dv cy sp e1 e2 e3 ro co di tr) (fun v h => (∃ x, v = some (.int x)) ∧ x_GM c has ke f h) := by
  by_cases hb : b = 0 ∨ b = 1
  · obtain ⟨n, hn, rfl⟩ := x_01 hb
    have a1 := hI n hn k
    have a2 := hI n hn (k - 1)
    have a3 := hI n hn (k + 1)
    have a4 := hI n hn (k + 1 - 1)
    by_cases hk : k < 0 ∨ 3 < k
    · skip
      refine mm_T.s rfl rfl rfl (fun _ => rfl) ?_
      refine mm_T.s rfl rfl rfl (fun _ => rfl) ?_
      refine mm_T.ic rfl rfl rfl rfl rfl (x_isC1 hb) ?_
      refine mm_T.s rfl rfl rfl (fun _ => rfl) ?_
      refine mm_T.s rfl rfl rfl (fun _ => rfl) ?_
      refine mm_T.ic rfl rfl rfl rfl rfl (x_isD0 hk) ?_
      refine mm_T.s rfl rfl rfl (fun _ => rfl) ?_
      refine mm_T.s rfl rfl rfl (fun _ => rfl) ?_
      exact mm_T.ret rfl rfl rfl (⟨⟨_, rfl⟩, _, _, _, _, _, _, _, _, _, _, _, _, rfl⟩)
    · skip
      refine mm_T.s rfl rfl rfl (fun _ => rfl) ?_
      refine mm_T.s rfl rfl rfl (fun _ => rfl) ?_
      refine mm_T.ic rfl rfl rfl rfl rfl (x_isC1 hb) ?_
      refine mm_T.s rfl rfl rfl (fun _ => rfl) ?_
      refine mm_T.s rfl rfl rfl (fun _ => rfl) ?_
      refine mm_T.ic rfl rfl rfl rfl rfl (x_isD1 (fun q => hk (Or.inl q)) (fun q => hk (Or.inr q))) ?_
      refine mm_T.s rfl rfl rfl (fun _ => rfl) ?_
      refine mm_T.s rfl rfl rfl (fun _ => rfl) ?_
      refine mm_T.cz rfl rfl (fun hb56 => ?_) (fun hb56 => ?_)
      · skip
        have hp : ¬ p.toInt64 = 0 := x_i2l0 (hz hb56)
        refine mm_T.s rfl rfl rfl (fun _ => rfl) ?_
        refine mm_T.s rfl rfl rfl (fun _ => rfl) ?_
        refine mm_T.s rfl rfl rfl (fun _ => rfl) ?_
        refine mm_T.ivw rfl rfl rfl rfl rfl rfl (m_bo hI hn k) ?_
        rintro _ _ ⟨rfl, ma1, _, rfl⟩
        refine mm_T.s rfl rfl rfl (fun _ => rfl) ?_
        refine mm_T.s rfl rfl rfl (fun _ => rfl) ?_
        refine mm_T.s rfl rfl rfl (fun _ => rfl) ?_
        refine mm_T.ivw rfl rfl rfl rfl rfl rfl (m_rm (by omega) (by omega) hp) ?_
        rintro _ _ ⟨⟨x1, rfl⟩, wo1, rfl⟩
        refine mm_T.s rfl rfl rfl (fun _ => rfl) ?_
        refine mm_T.s rfl rfl rfl (fun _ => rfl) ?_
        refine mm_T.s rfl rfl rfl (fun _ => rfl) ?_
        refine mm_T.s rfl rfl rfl (fun _ => rfl) ?_
        refine mm_T.s rfl rfl rfl (fun _ => rfl) ?_
        refine mm_T.s rfl rfl rfl (fun _ => rfl) ?_
        refine mm_T.ivw rfl rfl rfl rfl rfl rfl (m_bo hI hn (k + 1)) ?_
        rintro _ _ ⟨rfl, ma2, _, rfl⟩
        refine mm_T.s rfl rfl rfl (fun _ => rfl) ?_
        refine mm_T.s rfl rfl rfl (fun _ => rfl) ?_
        refine mm_T.s rfl rfl rfl (fun _ => rfl) ?_
        refine mm_T.iv rfl rfl rfl rfl rfl rfl (g_many rfl rfl hn k) ?_
        refine mm_T.s rfl rfl rfl (fun _ => rfl) ?_
        refine mm_T.s rfl rfl rfl (fun _ => rfl) ?_
        refine mm_T.s rfl rfl rfl (fun _ => rfl) ?_
        refine mm_T.s rfl rfl rfl (fun _ => rfl) ?_
        refine mm_T.s rfl rfl rfl (fun _ => rfl) ?_
        refine mm_T.ivw rfl rfl rfl rfl rfl rfl (m_rm (by omega) (by omega) hp) ?_
        rintro _ _ ⟨⟨x2, rfl⟩, wo2, rfl⟩
        refine mm_T.s rfl rfl rfl (fun _ => rfl) ?_
        exact mm_T.ret rfl rfl rfl (⟨⟨_, rfl⟩, _, _, _, _, _, _, _, _, _, _, _, _, rfl⟩)
      · skip
        refine mm_T.s rfl rfl rfl (fun _ => rfl) ?_
        exact mm_T.ret rfl rfl rfl (⟨⟨_, rfl⟩, _, _, _, _, _, _, _, _, _, _, _, _, rfl⟩)
  · skip
    refine mm_T.s rfl rfl rfl (fun _ => rfl) ?_
    refine mm_T.s rfl rfl rfl (fun _ => rfl) ?_
    refine mm_T.ic rfl rfl rfl rfl rfl (x_isC0 hb) ?_
    refine mm_T.s rfl rfl rfl (fun _ => rfl) ?_
    refine mm_T.s rfl rfl rfl (fun _ => rfl) ?_
    exact mm_T.ret rfl rfl rfl (⟨⟨_, rfl⟩, _, _, _, _, _, _, _, _, _, _, _, _, rfl⟩)
theorem m_bettiM {c : Nat → mm_C} {has ke f cy sp e1 e2 e3 : Nat → Int32} {ma wo dv : Nat → Int64} {ro co di tr : Int32} (hI : x_MI has) (b k p : Int32) : mm_TC kM 88 [.ref 25, .int b, .int k, .int p] (kD c has ke f ma wo dv cy sp e1 e2 e3 ro co di tr) (fun v h => (∃ x, v = some (.int x)) ∧ x_GM c has ke f h) := by
  refine mm_TC.of (M := kq_88) rfl rfl ?_
  refine mm_T.s rfl rfl rfl (fun _ => rfl) ?_
  refine mm_T.s rfl rfl rfl (fun _ => rfl) ?_
  refine mm_T.ci rfl rfl (fun hb2 => ?_) (fun hb2 => ?_)
  · skip
    have hz : (1 : Int32) ≠ 0 → p ≠ 0 := fun _ e => absurd (Eq.trans e.symm hb2) (by decide)
    refine mm_T.s rfl rfl rfl (fun _ => rfl) ?_
    refine mm_T.s rfl rfl rfl (fun _ => rfl) ?_
    exact m_bm38 hI b k hz
  · skip
    refine mm_T.s rfl rfl rfl (fun _ => rfl) ?_
    refine mm_T.s rfl rfl rfl (fun _ => rfl) ?_
    refine mm_T.ci rfl rfl (fun hb7 => ?_) (fun hb7 => ?_)
    · skip
      have hz : (1 : Int32) ≠ 0 → p ≠ 0 := fun _ e => absurd (Eq.trans e.symm hb7) (by decide)
      refine mm_T.s rfl rfl rfl (fun _ => rfl) ?_
      refine mm_T.s rfl rfl rfl (fun _ => rfl) ?_
      exact m_bm38 hI b k hz
    · skip
      refine mm_T.s rfl rfl rfl (fun _ => rfl) ?_
      refine mm_T.s rfl rfl rfl (fun _ => rfl) ?_
      refine mm_T.ci rfl rfl (fun hb12 => ?_) (fun hb12 => ?_)
      · skip
        have hz : (1 : Int32) ≠ 0 → p ≠ 0 := fun _ e => absurd (Eq.trans e.symm hb12) (by decide)
        refine mm_T.s rfl rfl rfl (fun _ => rfl) ?_
        refine mm_T.s rfl rfl rfl (fun _ => rfl) ?_
        exact m_bm38 hI b k hz
      · skip
        refine mm_T.s rfl rfl rfl (fun _ => rfl) ?_
        refine mm_T.s rfl rfl rfl (fun _ => rfl) ?_
        refine mm_T.ci rfl rfl (fun hb18 => ?_) (fun hb18 => ?_)
        · skip
          have hz : (1 : Int32) ≠ 0 → p ≠ 0 := fun _ e => absurd (Eq.trans e.symm hb18) (by decide)
          refine mm_T.s rfl rfl rfl (fun _ => rfl) ?_
          refine mm_T.s rfl rfl rfl (fun _ => rfl) ?_
          exact m_bm38 hI b k hz
        · skip
          refine mm_T.s rfl rfl rfl (fun _ => rfl) ?_
          refine mm_T.s rfl rfl rfl (fun _ => rfl) ?_
          refine mm_T.ci rfl rfl (fun hb24 => ?_) (fun hb24 => ?_)
          · skip
            have hz : (1 : Int32) ≠ 0 → p ≠ 0 := fun _ e => absurd (Eq.trans e.symm hb24) (by decide)
            refine mm_T.s rfl rfl rfl (fun _ => rfl) ?_
            refine mm_T.s rfl rfl rfl (fun _ => rfl) ?_
            exact m_bm38 hI b k hz
          · skip
            refine mm_T.s rfl rfl rfl (fun _ => rfl) ?_
            refine mm_T.s rfl rfl rfl (fun _ => rfl) ?_
            refine mm_T.ci rfl rfl (fun hb30 => ?_) (fun hb30 => ?_)
            · skip
              have hz : (0 : Int32) ≠ 0 → p ≠ 0 := fun q => absurd rfl q
              refine mm_T.s rfl rfl rfl (fun _ => rfl) ?_
              exact m_bm38 hI b k hz
            · skip
              have hz : (1 : Int32) ≠ 0 → p ≠ 0 := fun _ e => absurd (Eq.trans e.symm (Classical.not_not.mp hb30)) (by decide)
              refine mm_T.s rfl rfl rfl (fun _ => rfl) ?_
              refine mm_T.s rfl rfl rfl (fun _ => rfl) ?_
              exact m_bm38 hI b k hz
