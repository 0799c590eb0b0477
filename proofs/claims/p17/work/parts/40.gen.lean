/-! THE MODEL IN GENERAL: any complex -/
/-- set q of complex n is there and has k + 1 vertices -/
abbrev x_cd (has : Nat → Int32) (n : Nat) (k : Int32) (q : Nat) : Prop := ¬ has (256 * n + q) = 0 ∧ x_sz8 (nI q) 8 = k + 1
/-- how many of them among 1 .. t -/
def x_mn (has : Nat → Int32) (n : Nat) (k : Int32) : Nat → Nat
  | 0 => 0
  | t + 1 => if x_cd has n k (t + 1) then x_mn has n k t + 1 else x_mn has n k t
theorem x_mn_le (has : Nat → Int32) (n : Nat) (k : Int32) : ∀ t, x_mn has n k t ≤ t
  | 0 => Nat.le_refl 0
  | t + 1 => by
    have ih := x_mn_le has n k t
    unfold x_mn
    split <;> omega
theorem x_mn_y {has : Nat → Int32} {n : Nat} {k : Int32} {t : Nat} (h : x_cd has n k (t + 1)) : x_mn has n k (t + 1) = x_mn has n k t + 1 := if_pos h
theorem x_mn_n {has : Nat → Int32} {n : Nat} {k : Int32} {t : Nat} (h : ¬ x_cd has n k (t + 1)) : x_mn has n k (t + 1) = x_mn has n k t := if_neg h
theorem g_many {h : mm_H} {ro co di tr : Int32} {has : Nat → Int32} (hO : mm_nth h 25 = some (x_mo ro co di tr)) (hH : mm_nth h 26 = some (x_ha has)) {n : Nat} (hn : n < 2) (k : Int32) : mm_EC kM 69 [.ref 25, .int (nI n), .int k] h (some (.int (nI (x_mn has n k 255))), h) := by
  refine ⟨kq_69, rfl, rfl, ?_⟩
  refine mm_E.s rfl rfl rfl (fun _ => rfl) ?_
  refine mm_E.s rfl rfl rfl (fun _ => rfl) ?_
  refine mm_E.s rfl rfl rfl (fun _ => rfl) ?_
  refine mm_E.s rfl rfl rfl (fun _ => rfl) ?_
  refine mm_E.loop (fun t => [some (.ref 25), some (.int (nI n)), some (.int k), some (.int (nI (x_mn has n k t))), some (.int (nI (t + 1)))]) (fun _ => h) 255 ?_ ?_
  · skip
    refine mm_E.s rfl rfl rfl (fun _ => rfl) ?_
    refine mm_E.s rfl rfl rfl (fun _ => rfl) ?_
    refine mm_E.s rfl rfl rfl (fun _ => rfl) ?_
    refine mm_E.s rfl rfl rfl (fun _ => rfl) ?_
    exact mm_E.ret rfl rfl rfl
  · intro t ht ih
    rw [← nI_1] at ih
    refine mm_E.s rfl rfl rfl (fun _ => rfl) ?_
    refine mm_E.s rfl rfl rfl (fun _ => rfl) ?_
    refine mm_E.s rfl rfl rfl (fun _ => if_neg (nI_ge (a := t + 1) (b := 256) (by omega) (by decide))) ?_
    refine mm_E.s rfl rfl rfl (fun _ => rfl) ?_
    refine mm_E.gf rfl rfl rfl hO rfl ?_
    refine mm_E.s rfl rfl rfl (fun _ => rfl) ?_
    refine mm_E.s rfl rfl rfl (fun _ => rfl) ?_
    refine mm_E.s rfl rfl rfl (fun _ => rfl) ?_
    refine mm_E.s rfl rfl rfl (fun _ => rfl) ?_
    refine mm_E.s rfl rfl rfl (fun _ => rfl) ?_
    refine mm_E.ti _ (x_ix n (t + 1)) ?_
    by_cases h0 : has (256 * n + (t + 1)) = 0
    · rw [x_mn_n (fun q => q.1 h0)] at ih
      refine mm_E.za rfl rfl hH (mm_bd (by omega) (by decide)) (v := has (256 * n + (t + 1))) (by rw [mm_cl (by omega)]) ?_
      refine mm_E.s rfl rfl rfl (fun _ => if_pos h0) ?_
      refine mm_E.s rfl rfl rfl (fun _ => rfl) ?_
      refine mm_E.s rfl rfl rfl (fun _ => rfl) ?_
      refine mm_E.s rfl rfl rfl (fun _ => rfl) ?_
      refine mm_E.s rfl rfl rfl (fun _ => rfl) ?_
      exact ih
    · by_cases h1 : x_sz8 (nI (t + 1)) 8 = k + 1
      · rw [x_mn_y ⟨h0, h1⟩, ← nI_1] at ih
        refine mm_E.za rfl rfl hH (mm_bd (by omega) (by decide)) (v := has (256 * n + (t + 1))) (by rw [mm_cl (by omega)]) ?_
        refine mm_E.s rfl rfl rfl (fun _ => if_neg h0) ?_
        refine mm_E.s rfl rfl rfl (fun _ => rfl) ?_
        refine mm_E.ic rfl rfl rfl rfl rfl (x_size _) ?_
        refine mm_E.s rfl rfl rfl (fun _ => rfl) ?_
        refine mm_E.s rfl rfl rfl (fun _ => rfl) ?_
        refine mm_E.s rfl rfl rfl (fun _ => rfl) ?_
        refine mm_E.s rfl rfl rfl (fun _ => if_pos h1) ?_
        refine mm_E.s rfl rfl rfl (fun _ => rfl) ?_
        refine mm_E.s rfl rfl rfl (fun _ => rfl) ?_
        refine mm_E.s rfl rfl rfl (fun _ => rfl) ?_
        refine mm_E.s rfl rfl rfl (fun _ => rfl) ?_
        refine mm_E.s rfl rfl rfl (fun _ => rfl) ?_
        refine mm_E.s rfl rfl rfl (fun _ => rfl) ?_
        refine mm_E.s rfl rfl rfl (fun _ => rfl) ?_
        exact ih
      · rw [x_mn_n (fun q => h1 q.2)] at ih
        refine mm_E.za rfl rfl hH (mm_bd (by omega) (by decide)) (v := has (256 * n + (t + 1))) (by rw [mm_cl (by omega)]) ?_
        refine mm_E.s rfl rfl rfl (fun _ => if_neg h0) ?_
        refine mm_E.s rfl rfl rfl (fun _ => rfl) ?_
        refine mm_E.ic rfl rfl rfl rfl rfl (x_size _) ?_
        refine mm_E.s rfl rfl rfl (fun _ => rfl) ?_
        refine mm_E.s rfl rfl rfl (fun _ => rfl) ?_
        refine mm_E.s rfl rfl rfl (fun _ => rfl) ?_
        refine mm_E.s rfl rfl rfl (fun _ => if_neg h1) ?_
        refine mm_E.s rfl rfl rfl (fun _ => rfl) ?_
        refine mm_E.s rfl rfl rfl (fun _ => rfl) ?_
        refine mm_E.s rfl rfl rfl (fun _ => rfl) ?_
        refine mm_E.s rfl rfl rfl (fun _ => rfl) ?_
        exact ih

theorem x_m1 (x : Int32) : x - 1 = x + Int32.ofInt (-1) := by
  rw [Int32.sub_eq_add_neg]
  rfl
/-- the i-th of them, 0 if there is none -/
def x_at (has : Nat → Int32) (n : Nat) (k : Int32) : Nat → Nat → Int32 → Int32
  | 0, _, _ => 0
  | d + 1, q, i => if x_cd has n k q then (if i = 0 then nI q else x_at has n k d (q + 1) (i - 1)) else x_at has n k d (q + 1) i
theorem g_at {h : mm_H} {ro co di tr : Int32} {has : Nat → Int32} (hO : mm_nth h 25 = some (x_mo ro co di tr)) (hH : mm_nth h 26 = some (x_ha has)) {n : Nat} (hn : n < 2) (k i : Int32) : mm_EC kM 70 [.ref 25, .int (nI n), .int k, .int i] h (some (.int (x_at has n k 255 1 i)), h) := by
  refine ⟨kq_70, rfl, rfl, ?_⟩
  refine mm_E.s rfl rfl rfl (fun _ => rfl) ?_
  refine mm_E.s rfl rfl rfl (fun _ => rfl) ?_
  refine mm_E.s rfl rfl rfl (fun _ => rfl) ?_
  refine mm_E.s rfl rfl rfl (fun _ => rfl) ?_
  have key : ∀ (d q : Nat) (i0 : Int32), q + d = 256 → 1 ≤ q → mm_E kM none 70 6 [some (.ref 25), some (.int (nI n)), some (.int k), some (.int i), some (.int i0), some (.int (nI q))] [] h (some (.int (x_at has n k d q i0)), h) := by
    intro d
    induction d with
    | zero =>
      intro q i0 hq hq1
      have : q = 256 := by omega
      subst this
      refine mm_E.s rfl rfl rfl (fun _ => rfl) ?_
      refine mm_E.s rfl rfl rfl (fun _ => rfl) ?_
      refine mm_E.s rfl rfl rfl (fun _ => rfl) ?_
      refine mm_E.s rfl rfl rfl (fun _ => rfl) ?_
      exact mm_E.ret rfl rfl rfl
    | succ d ih =>
      intro q i0 hq hq1
      refine mm_E.s rfl rfl rfl (fun _ => rfl) ?_
      refine mm_E.s rfl rfl rfl (fun _ => rfl) ?_
      refine mm_E.s rfl rfl rfl (fun _ => if_neg (nI_ge (a := q) (b := 256) (by omega) (by decide))) ?_
      refine mm_E.s rfl rfl rfl (fun _ => rfl) ?_
      refine mm_E.gf rfl rfl rfl hO rfl ?_
      refine mm_E.s rfl rfl rfl (fun _ => rfl) ?_
      refine mm_E.s rfl rfl rfl (fun _ => rfl) ?_
      refine mm_E.s rfl rfl rfl (fun _ => rfl) ?_
      refine mm_E.s rfl rfl rfl (fun _ => rfl) ?_
      refine mm_E.s rfl rfl rfl (fun _ => rfl) ?_
      refine mm_E.ti _ (x_ix n q) ?_
      by_cases h0 : has (256 * n + q) = 0
      · rw [show x_at has n k (d + 1) q i0 = x_at has n k d (q + 1) i0 from if_neg (fun z => z.1 h0)]
        have z := ih (q + 1) i0 (by omega) (by omega)
        rw [← nI_1] at z
        refine mm_E.za rfl rfl hH (mm_bd (by omega) (by decide)) (v := has (256 * n + q)) (by rw [mm_cl (by omega)]) ?_
        refine mm_E.s rfl rfl rfl (fun _ => if_pos h0) ?_
        refine mm_E.s rfl rfl rfl (fun _ => rfl) ?_
        refine mm_E.s rfl rfl rfl (fun _ => rfl) ?_
        exact z
      · by_cases h1 : x_sz8 (nI q) 8 = k + 1
        · by_cases h2 : i0 = 0
          · rw [show x_at has n k (d + 1) q i0 = nI q from (if_pos ⟨h0, h1⟩).trans (if_pos h2)]
            refine mm_E.za rfl rfl hH (mm_bd (by omega) (by decide)) (v := has (256 * n + q)) (by rw [mm_cl (by omega)]) ?_
            refine mm_E.s rfl rfl rfl (fun _ => if_neg h0) ?_
            refine mm_E.s rfl rfl rfl (fun _ => rfl) ?_
            refine mm_E.ic rfl rfl rfl rfl rfl (x_size _) ?_
            refine mm_E.s rfl rfl rfl (fun _ => rfl) ?_
            refine mm_E.s rfl rfl rfl (fun _ => rfl) ?_
            refine mm_E.s rfl rfl rfl (fun _ => rfl) ?_
            refine mm_E.s rfl rfl rfl (fun _ => if_pos h1) ?_
            refine mm_E.s rfl rfl rfl (fun _ => rfl) ?_
            refine mm_E.s rfl rfl rfl (fun _ => if_pos h2) ?_
            refine mm_E.s rfl rfl rfl (fun _ => rfl) ?_
            exact mm_E.ret rfl rfl rfl
          · rw [show x_at has n k (d + 1) q i0 = x_at has n k d (q + 1) (i0 - 1) from (if_pos ⟨h0, h1⟩).trans (if_neg h2)]
            have z := ih (q + 1) (i0 - 1) (by omega) (by omega)
            rw [← nI_1] at z
            refine mm_E.za rfl rfl hH (mm_bd (by omega) (by decide)) (v := has (256 * n + q)) (by rw [mm_cl (by omega)]) ?_
            refine mm_E.s rfl rfl rfl (fun _ => if_neg h0) ?_
            refine mm_E.s rfl rfl rfl (fun _ => rfl) ?_
            refine mm_E.ic rfl rfl rfl rfl rfl (x_size _) ?_
            refine mm_E.s rfl rfl rfl (fun _ => rfl) ?_
            refine mm_E.s rfl rfl rfl (fun _ => rfl) ?_
            refine mm_E.s rfl rfl rfl (fun _ => rfl) ?_
            refine mm_E.s rfl rfl rfl (fun _ => if_pos h1) ?_
            refine mm_E.s rfl rfl rfl (fun _ => rfl) ?_
            refine mm_E.s rfl rfl rfl (fun _ => if_neg h2) ?_
            refine mm_E.s rfl rfl rfl (fun _ => rfl) ?_
            refine mm_E.s rfl rfl rfl (fun _ => rfl) ?_
            refine mm_E.s rfl rfl rfl (fun _ => rfl) ?_
            refine mm_E.lc _ ?_ z
            rw [x_m1 i0]
            rfl
        · rw [show x_at has n k (d + 1) q i0 = x_at has n k d (q + 1) i0 from if_neg (fun z => h1 z.2)]
          have z := ih (q + 1) i0 (by omega) (by omega)
          rw [← nI_1] at z
          refine mm_E.za rfl rfl hH (mm_bd (by omega) (by decide)) (v := has (256 * n + q)) (by rw [mm_cl (by omega)]) ?_
          refine mm_E.s rfl rfl rfl (fun _ => if_neg h0) ?_
          refine mm_E.s rfl rfl rfl (fun _ => rfl) ?_
          refine mm_E.ic rfl rfl rfl rfl rfl (x_size _) ?_
          refine mm_E.s rfl rfl rfl (fun _ => rfl) ?_
          refine mm_E.s rfl rfl rfl (fun _ => rfl) ?_
          refine mm_E.s rfl rfl rfl (fun _ => rfl) ?_
          refine mm_E.s rfl rfl rfl (fun _ => if_neg h1) ?_
          refine mm_E.s rfl rfl rfl (fun _ => rfl) ?_
          refine mm_E.s rfl rfl rfl (fun _ => rfl) ?_
          exact z
  exact key 255 1 i rfl (by decide)

/-- set s of complex c is there -/
abbrev x_is (has : Nat → Int32) (c s : Int32) : Prop := (c = 0 ∨ c = 1) ∧ (¬ s < 1 ∧ ¬ 255 < s) ∧ ¬ has (256 * c.toNatClampNeg + s.toNatClampNeg) = 0
theorem g_is1 {h : mm_H} {ro co di tr : Int32} {has : Nat → Int32} (hO : mm_nth h 25 = some (x_mo ro co di tr)) (hH : mm_nth h 26 = some (x_ha has)) {c s : Int32} (hs : x_is has c s) : mm_EC kM 68 [.ref 25, .int c, .int s] h (some (.int 1), h) := by
  refine ⟨kq_68, rfl, rfl, ?_⟩
  obtain ⟨hc, ⟨h1, h2⟩, h3⟩ := hs
  obtain ⟨n, hn, rfl⟩ := x_c01 hc
  obtain ⟨j, hj, rfl⟩ := nI_of2 (x := s) (M := 255) (n := 255) rfl (fun q => h1 (Int32.lt_of_lt_of_le q (by decide))) (Int32.not_lt.mp h2)
  rw [mm_cl (by omega), mm_cl (by omega)] at h3
  refine mm_E.s rfl rfl rfl (fun _ => rfl) ?_
  refine mm_E.ic rfl rfl rfl rfl rfl (x_isC1 hc) ?_
  refine mm_E.s rfl rfl rfl (fun _ => rfl) ?_
  refine mm_E.s rfl rfl rfl (fun _ => rfl) ?_
  refine mm_E.s rfl rfl rfl (fun _ => rfl) ?_
  refine mm_E.s rfl rfl rfl (fun _ => if_neg h1) ?_
  refine mm_E.s rfl rfl rfl (fun _ => rfl) ?_
  refine mm_E.s rfl rfl rfl (fun _ => rfl) ?_
  refine mm_E.s rfl rfl rfl (fun _ => if_neg h2) ?_
  refine mm_E.s rfl rfl rfl (fun _ => rfl) ?_
  refine mm_E.gf rfl rfl rfl hO rfl ?_
  refine mm_E.s rfl rfl rfl (fun _ => rfl) ?_
  refine mm_E.s rfl rfl rfl (fun _ => rfl) ?_
  refine mm_E.s rfl rfl rfl (fun _ => rfl) ?_
  refine mm_E.s rfl rfl rfl (fun _ => rfl) ?_
  refine mm_E.s rfl rfl rfl (fun _ => rfl) ?_
  refine mm_E.ti _ (x_ix n j) ?_
  refine mm_E.za rfl rfl hH (mm_bd (by omega) (by decide)) (v := has (256 * n + j)) (by rw [mm_cl (by omega)]) ?_
  refine mm_E.s rfl rfl rfl (fun _ => if_neg h3) ?_
  refine mm_E.s rfl rfl rfl (fun _ => rfl) ?_
  refine mm_E.s rfl rfl rfl (fun _ => rfl) ?_
  exact mm_E.ret rfl rfl rfl
theorem g_is0 {h : mm_H} {ro co di tr : Int32} {has : Nat → Int32} (hO : mm_nth h 25 = some (x_mo ro co di tr)) (hH : mm_nth h 26 = some (x_ha has)) {c s : Int32} (hs : ¬ x_is has c s) : mm_EC kM 68 [.ref 25, .int c, .int s] h (some (.int 0), h) := by
  refine ⟨kq_68, rfl, rfl, ?_⟩
  by_cases hc : c = 0 ∨ c = 1
  · by_cases h1 : s < 1
    · skip
      refine mm_E.s rfl rfl rfl (fun _ => rfl) ?_
      refine mm_E.ic rfl rfl rfl rfl rfl (x_isC1 hc) ?_
      refine mm_E.s rfl rfl rfl (fun _ => rfl) ?_
      refine mm_E.s rfl rfl rfl (fun _ => rfl) ?_
      refine mm_E.s rfl rfl rfl (fun _ => rfl) ?_
      refine mm_E.s rfl rfl rfl (fun _ => if_pos h1) ?_
      refine mm_E.s rfl rfl rfl (fun _ => rfl) ?_
      exact mm_E.ret rfl rfl rfl
    · by_cases h2 : 255 < s
      · skip
        refine mm_E.s rfl rfl rfl (fun _ => rfl) ?_
        refine mm_E.ic rfl rfl rfl rfl rfl (x_isC1 hc) ?_
        refine mm_E.s rfl rfl rfl (fun _ => rfl) ?_
        refine mm_E.s rfl rfl rfl (fun _ => rfl) ?_
        refine mm_E.s rfl rfl rfl (fun _ => rfl) ?_
        refine mm_E.s rfl rfl rfl (fun _ => if_neg h1) ?_
        refine mm_E.s rfl rfl rfl (fun _ => rfl) ?_
        refine mm_E.s rfl rfl rfl (fun _ => rfl) ?_
        refine mm_E.s rfl rfl rfl (fun _ => if_pos h2) ?_
        refine mm_E.s rfl rfl rfl (fun _ => rfl) ?_
        exact mm_E.ret rfl rfl rfl
      · have h3 : has (256 * c.toNatClampNeg + s.toNatClampNeg) = 0 := Decidable.byContradiction (fun q => hs ⟨hc, ⟨h1, h2⟩, q⟩)
        obtain ⟨n, hn, rfl⟩ := x_c01 hc
        obtain ⟨j, hj, rfl⟩ := nI_of2 (x := s) (M := 255) (n := 255) rfl (fun q => h1 (Int32.lt_of_lt_of_le q (by decide))) (Int32.not_lt.mp h2)
        rw [mm_cl (by omega), mm_cl (by omega)] at h3
        refine mm_E.s rfl rfl rfl (fun _ => rfl) ?_
        refine mm_E.ic rfl rfl rfl rfl rfl (x_isC1 hc) ?_
        refine mm_E.s rfl rfl rfl (fun _ => rfl) ?_
        refine mm_E.s rfl rfl rfl (fun _ => rfl) ?_
        refine mm_E.s rfl rfl rfl (fun _ => rfl) ?_
        refine mm_E.s rfl rfl rfl (fun _ => if_neg h1) ?_
        refine mm_E.s rfl rfl rfl (fun _ => rfl) ?_
        refine mm_E.s rfl rfl rfl (fun _ => rfl) ?_
        refine mm_E.s rfl rfl rfl (fun _ => if_neg h2) ?_
        refine mm_E.s rfl rfl rfl (fun _ => rfl) ?_
        refine mm_E.gf rfl rfl rfl hO rfl ?_
        refine mm_E.s rfl rfl rfl (fun _ => rfl) ?_
        refine mm_E.s rfl rfl rfl (fun _ => rfl) ?_
        refine mm_E.s rfl rfl rfl (fun _ => rfl) ?_
        refine mm_E.s rfl rfl rfl (fun _ => rfl) ?_
        refine mm_E.s rfl rfl rfl (fun _ => rfl) ?_
        refine mm_E.ti _ (x_ix n j) ?_
        refine mm_E.za rfl rfl hH (mm_bd (by omega) (by decide)) (v := has (256 * n + j)) (by rw [mm_cl (by omega)]) ?_
        refine mm_E.s rfl rfl rfl (fun _ => if_pos h3) ?_
        refine mm_E.s rfl rfl rfl (fun _ => rfl) ?_
        exact mm_E.ret rfl rfl rfl
  · skip
    refine mm_E.s rfl rfl rfl (fun _ => rfl) ?_
    refine mm_E.ic rfl rfl rfl rfl rfl (x_isC0 hc) ?_
    refine mm_E.s rfl rfl rfl (fun _ => rfl) ?_
    refine mm_E.s rfl rfl rfl (fun _ => rfl) ?_
    exact mm_E.ret rfl rfl rfl

theorem g_count {h : mm_H} {ro co di tr : Int32} {has : Nat → Int32} (hO : mm_nth h 25 = some (x_mo ro co di tr)) (hH : mm_nth h 26 = some (x_ha has)) (c k : Int32) : mm_EC kM 74 [.ref 25, .int c, .int k] h (some (.int (if (c = 0 ∨ c = 1) ∧ ¬ k < 0 ∧ ¬ 3 < k then nI (x_mn has c.toNatClampNeg k 255) else -1)), h) := by
  refine ⟨kq_74, rfl, rfl, ?_⟩
  by_cases hc : c = 0 ∨ c = 1
  · by_cases hk : k < 0 ∨ 3 < k
    · rw [if_neg (fun q => hk.elim q.2.1 q.2.2)]
      refine mm_E.s rfl rfl rfl (fun _ => rfl) ?_
      refine mm_E.ic rfl rfl rfl rfl rfl (x_isC1 hc) ?_
      refine mm_E.s rfl rfl rfl (fun _ => rfl) ?_
      refine mm_E.s rfl rfl rfl (fun _ => rfl) ?_
      refine mm_E.ic rfl rfl rfl rfl rfl (x_isD0 hk) ?_
      refine mm_E.s rfl rfl rfl (fun _ => rfl) ?_
      refine mm_E.s rfl rfl rfl (fun _ => rfl) ?_
      exact mm_E.ret rfl rfl rfl
    · have k0 : ¬ k < 0 := fun q => hk (Or.inl q)
      have k3 : ¬ 3 < k := fun q => hk (Or.inr q)
      rw [if_pos ⟨hc, k0, k3⟩]
      obtain ⟨n, hn, rfl⟩ := x_c01 hc
      rw [mm_cl (by omega)]
      refine mm_E.s rfl rfl rfl (fun _ => rfl) ?_
      refine mm_E.ic rfl rfl rfl rfl rfl (x_isC1 hc) ?_
      refine mm_E.s rfl rfl rfl (fun _ => rfl) ?_
      refine mm_E.s rfl rfl rfl (fun _ => rfl) ?_
      refine mm_E.ic rfl rfl rfl rfl rfl (x_isD1 k0 k3) ?_
      refine mm_E.s rfl rfl rfl (fun _ => rfl) ?_
      refine mm_E.s rfl rfl rfl (fun _ => rfl) ?_
      refine mm_E.s rfl rfl rfl (fun _ => rfl) ?_
      refine mm_E.s rfl rfl rfl (fun _ => rfl) ?_
      refine mm_E.iv rfl rfl rfl rfl hO rfl (g_many hO hH hn k) ?_
      refine mm_E.s rfl rfl rfl (fun _ => rfl) ?_
      exact mm_E.ret rfl rfl rfl
  · rw [if_neg (fun q => hc q.1)]
    refine mm_E.s rfl rfl rfl (fun _ => rfl) ?_
    refine mm_E.ic rfl rfl rfl rfl rfl (x_isC0 hc) ?_
    refine mm_E.s rfl rfl rfl (fun _ => rfl) ?_
    refine mm_E.s rfl rfl rfl (fun _ => rfl) ?_
    exact mm_E.ret rfl rfl rfl

theorem g_simplex {h : mm_H} {ro co di tr : Int32} {has : Nat → Int32} (hO : mm_nth h 25 = some (x_mo ro co di tr)) (hH : mm_nth h 26 = some (x_ha has)) (c k i : Int32) : mm_EC kM 75 [.ref 25, .int c, .int k, .int i] h (some (.int (if (c = 0 ∨ c = 1) ∧ (¬ k < 0 ∧ ¬ 3 < k) ∧ ¬ i < 0 ∧ ¬ x_at has c.toNatClampNeg k 255 1 i = 0 then x_at has c.toNatClampNeg k 255 1 i else -1)), h) := by
  refine ⟨kq_75, rfl, rfl, ?_⟩
  by_cases hc : c = 0 ∨ c = 1
  · by_cases hk : k < 0 ∨ 3 < k
    · rw [if_neg (fun q => hk.elim q.2.1.1 q.2.1.2)]
      refine mm_E.s rfl rfl rfl (fun _ => rfl) ?_
      refine mm_E.ic rfl rfl rfl rfl rfl (x_isC1 hc) ?_
      refine mm_E.s rfl rfl rfl (fun _ => rfl) ?_
      refine mm_E.s rfl rfl rfl (fun _ => rfl) ?_
      refine mm_E.ic rfl rfl rfl rfl rfl (x_isD0 hk) ?_
      refine mm_E.s rfl rfl rfl (fun _ => rfl) ?_
      refine mm_E.s rfl rfl rfl (fun _ => rfl) ?_
      refine mm_E.s rfl rfl rfl (fun _ => rfl) ?_
      refine mm_E.s rfl rfl rfl (fun _ => rfl) ?_
      refine mm_E.s rfl rfl rfl (fun _ => rfl) ?_
      refine mm_E.s rfl rfl rfl (fun _ => rfl) ?_
      refine mm_E.s rfl rfl rfl (fun _ => rfl) ?_
      exact mm_E.ret rfl rfl rfl
    · have k0 : ¬ k < 0 := fun q => hk (Or.inl q)
      have k3 : ¬ 3 < k := fun q => hk (Or.inr q)
      by_cases hi : i < 0
      · rw [if_neg (fun q => q.2.2.1 hi)]
        refine mm_E.s rfl rfl rfl (fun _ => rfl) ?_
        refine mm_E.ic rfl rfl rfl rfl rfl (x_isC1 hc) ?_
        refine mm_E.s rfl rfl rfl (fun _ => rfl) ?_
        refine mm_E.s rfl rfl rfl (fun _ => rfl) ?_
        refine mm_E.ic rfl rfl rfl rfl rfl (x_isD1 k0 k3) ?_
        refine mm_E.s rfl rfl rfl (fun _ => rfl) ?_
        refine mm_E.s rfl rfl rfl (fun _ => rfl) ?_
        refine mm_E.s rfl rfl rfl (fun _ => if_pos hi) ?_
        refine mm_E.s rfl rfl rfl (fun _ => rfl) ?_
        refine mm_E.s rfl rfl rfl (fun _ => rfl) ?_
        refine mm_E.s rfl rfl rfl (fun _ => rfl) ?_
        refine mm_E.s rfl rfl rfl (fun _ => rfl) ?_
        refine mm_E.s rfl rfl rfl (fun _ => rfl) ?_
        refine mm_E.s rfl rfl rfl (fun _ => rfl) ?_
        exact mm_E.ret rfl rfl rfl
      · obtain ⟨n, hn, rfl⟩ := x_c01 hc
        rw [mm_cl (by omega)]
        by_cases ha : x_at has n k 255 1 i = 0
        · rw [if_neg (fun q => q.2.2.2 ha)]
          refine mm_E.s rfl rfl rfl (fun _ => rfl) ?_
          refine mm_E.ic rfl rfl rfl rfl rfl (x_isC1 hc) ?_
          refine mm_E.s rfl rfl rfl (fun _ => rfl) ?_
          refine mm_E.s rfl rfl rfl (fun _ => rfl) ?_
          refine mm_E.ic rfl rfl rfl rfl rfl (x_isD1 k0 k3) ?_
          refine mm_E.s rfl rfl rfl (fun _ => rfl) ?_
          refine mm_E.s rfl rfl rfl (fun _ => rfl) ?_
          refine mm_E.s rfl rfl rfl (fun _ => if_neg hi) ?_
          refine mm_E.s rfl rfl rfl (fun _ => rfl) ?_
          refine mm_E.s rfl rfl rfl (fun _ => rfl) ?_
          refine mm_E.s rfl rfl rfl (fun _ => rfl) ?_
          refine mm_E.s rfl rfl rfl (fun _ => rfl) ?_
          refine mm_E.iv rfl rfl rfl rfl hO rfl (g_at hO hH hn k i) ?_
          refine mm_E.s rfl rfl rfl (fun _ => rfl) ?_
          refine mm_E.s rfl rfl rfl (fun _ => rfl) ?_
          refine mm_E.s rfl rfl rfl (fun _ => rfl) ?_
          refine mm_E.s rfl rfl rfl (fun _ => if_pos ha) ?_
          refine mm_E.s rfl rfl rfl (fun _ => rfl) ?_
          refine mm_E.s rfl rfl rfl (fun _ => rfl) ?_
          exact mm_E.ret rfl rfl rfl
        · rw [if_pos ⟨hc, ⟨k0, k3⟩, hi, ha⟩]
          refine mm_E.s rfl rfl rfl (fun _ => rfl) ?_
          refine mm_E.ic rfl rfl rfl rfl rfl (x_isC1 hc) ?_
          refine mm_E.s rfl rfl rfl (fun _ => rfl) ?_
          refine mm_E.s rfl rfl rfl (fun _ => rfl) ?_
          refine mm_E.ic rfl rfl rfl rfl rfl (x_isD1 k0 k3) ?_
          refine mm_E.s rfl rfl rfl (fun _ => rfl) ?_
          refine mm_E.s rfl rfl rfl (fun _ => rfl) ?_
          refine mm_E.s rfl rfl rfl (fun _ => if_neg hi) ?_
          refine mm_E.s rfl rfl rfl (fun _ => rfl) ?_
          refine mm_E.s rfl rfl rfl (fun _ => rfl) ?_
          refine mm_E.s rfl rfl rfl (fun _ => rfl) ?_
          refine mm_E.s rfl rfl rfl (fun _ => rfl) ?_
          refine mm_E.iv rfl rfl rfl rfl hO rfl (g_at hO hH hn k i) ?_
          refine mm_E.s rfl rfl rfl (fun _ => rfl) ?_
          refine mm_E.s rfl rfl rfl (fun _ => rfl) ?_
          refine mm_E.s rfl rfl rfl (fun _ => rfl) ?_
          refine mm_E.s rfl rfl rfl (fun _ => if_neg ha) ?_
          refine mm_E.s rfl rfl rfl (fun _ => rfl) ?_
          exact mm_E.ret rfl rfl rfl
  · rw [if_neg (fun q => hc q.1)]
    refine mm_E.s rfl rfl rfl (fun _ => rfl) ?_
    refine mm_E.ic rfl rfl rfl rfl rfl (x_isC0 hc) ?_
    refine mm_E.s rfl rfl rfl (fun _ => rfl) ?_
    refine mm_E.s rfl rfl rfl (fun _ => rfl) ?_
    refine mm_E.s rfl rfl rfl (fun _ => rfl) ?_
    refine mm_E.s rfl rfl rfl (fun _ => rfl) ?_
    refine mm_E.s rfl rfl rfl (fun _ => rfl) ?_
    refine mm_E.s rfl rfl rfl (fun _ => rfl) ?_
    refine mm_E.s rfl rfl rfl (fun _ => rfl) ?_
    exact mm_E.ret rfl rfl rfl

theorem g_euler {h : mm_H} {ro co di tr : Int32} {has : Nat → Int32} (hO : mm_nth h 25 = some (x_mo ro co di tr)) (hH : mm_nth h 26 = some (x_ha has)) (c : Int32) : mm_EC kM 77 [.ref 25, .int c] h (some (.int (if c = 0 ∨ c = 1 then nI (x_mn has c.toNatClampNeg 0 255) - nI (x_mn has c.toNatClampNeg 1 255) + nI (x_mn has c.toNatClampNeg 2 255) - nI (x_mn has c.toNatClampNeg 3 255) else 0)), h) := by
  refine ⟨kq_77, rfl, rfl, ?_⟩
  by_cases hc : c = 0 ∨ c = 1
  · rw [if_pos hc]
    obtain ⟨n, hn, rfl⟩ := x_c01 hc
    rw [mm_cl (by omega)]
    refine mm_E.s rfl rfl rfl (fun _ => rfl) ?_
    refine mm_E.ic rfl rfl rfl rfl rfl (x_isC1 hc) ?_
    refine mm_E.s rfl rfl rfl (fun _ => rfl) ?_
    refine mm_E.s rfl rfl rfl (fun _ => rfl) ?_
    refine mm_E.s rfl rfl rfl (fun _ => rfl) ?_
    refine mm_E.s rfl rfl rfl (fun _ => rfl) ?_
    refine mm_E.iv rfl rfl rfl rfl hO rfl (g_many hO hH hn 0) ?_
    refine mm_E.s rfl rfl rfl (fun _ => rfl) ?_
    refine mm_E.s rfl rfl rfl (fun _ => rfl) ?_
    refine mm_E.s rfl rfl rfl (fun _ => rfl) ?_
    refine mm_E.iv rfl rfl rfl rfl hO rfl (g_many hO hH hn 1) ?_
    refine mm_E.s rfl rfl rfl (fun _ => rfl) ?_
    refine mm_E.s rfl rfl rfl (fun _ => rfl) ?_
    refine mm_E.s rfl rfl rfl (fun _ => rfl) ?_
    refine mm_E.s rfl rfl rfl (fun _ => rfl) ?_
    refine mm_E.iv rfl rfl rfl rfl hO rfl (g_many hO hH hn 2) ?_
    refine mm_E.s rfl rfl rfl (fun _ => rfl) ?_
    refine mm_E.s rfl rfl rfl (fun _ => rfl) ?_
    refine mm_E.s rfl rfl rfl (fun _ => rfl) ?_
    refine mm_E.s rfl rfl rfl (fun _ => rfl) ?_
    refine mm_E.iv rfl rfl rfl rfl hO rfl (g_many hO hH hn 3) ?_
    refine mm_E.s rfl rfl rfl (fun _ => rfl) ?_
    refine mm_E.s rfl rfl rfl (fun _ => rfl) ?_
    exact mm_E.ret rfl rfl rfl
  · rw [if_neg hc]
    refine mm_E.s rfl rfl rfl (fun _ => rfl) ?_
    refine mm_E.ic rfl rfl rfl rfl rfl (x_isC0 hc) ?_
    refine mm_E.s rfl rfl rfl (fun _ => rfl) ?_
    refine mm_E.s rfl rfl rfl (fun _ => rfl) ?_
    exact mm_E.ret rfl rfl rfl

theorem g_get {h : mm_H} {ro co di tr : Int32} {has : Nat → Int32} (hO : mm_nth h 25 = some (x_mo ro co di tr)) (hH : mm_nth h 26 = some (x_ha has)) {kept : Nat → Int32} (h27 : mm_nth h 27 = some (x_it 512 kept)) (c s : Int32) : mm_EC kM 97 [.ref 25, .int c, .int s] h (some (.int (if x_is has c s then kept (256 * c.toNatClampNeg + s.toNatClampNeg) else 0)), h) := by
  refine ⟨kq_97, rfl, rfl, ?_⟩
  by_cases hs : x_is has c s
  · rw [if_pos hs]
    have E1 := g_is1 hO hH hs
    obtain ⟨hc, ⟨h1, h2⟩, h3⟩ := hs
    obtain ⟨n, hn, rfl⟩ := x_c01 hc
    obtain ⟨j, hj, rfl⟩ := nI_of2 (x := s) (M := 255) (n := 255) rfl (fun q => h1 (Int32.lt_of_lt_of_le q (by decide))) (Int32.not_lt.mp h2)
    rw [mm_cl (by omega), mm_cl (by omega)]
    refine mm_E.s rfl rfl rfl (fun _ => rfl) ?_
    refine mm_E.s rfl rfl rfl (fun _ => rfl) ?_
    refine mm_E.s rfl rfl rfl (fun _ => rfl) ?_
    refine mm_E.iv rfl rfl rfl rfl hO rfl E1 ?_
    refine mm_E.s rfl rfl rfl (fun _ => rfl) ?_
    refine mm_E.s rfl rfl rfl (fun _ => rfl) ?_
    refine mm_E.gf rfl rfl rfl hO rfl ?_
    refine mm_E.s rfl rfl rfl (fun _ => rfl) ?_
    refine mm_E.s rfl rfl rfl (fun _ => rfl) ?_
    refine mm_E.s rfl rfl rfl (fun _ => rfl) ?_
    refine mm_E.s rfl rfl rfl (fun _ => rfl) ?_
    refine mm_E.s rfl rfl rfl (fun _ => rfl) ?_
    refine mm_E.ti _ (x_ix n j) ?_
    refine mm_E.ia rfl rfl h27 (mm_bd (by omega) (by decide)) (v := kept (256 * n + j)) (by rw [mm_cl (by omega)]) ?_
    refine mm_E.s rfl rfl rfl (fun _ => rfl) ?_
    exact mm_E.ret rfl rfl rfl
  · rw [if_neg hs]
    refine mm_E.s rfl rfl rfl (fun _ => rfl) ?_
    refine mm_E.s rfl rfl rfl (fun _ => rfl) ?_
    refine mm_E.s rfl rfl rfl (fun _ => rfl) ?_
    refine mm_E.iv rfl rfl rfl rfl hO rfl (g_is0 hO hH hs) ?_
    refine mm_E.s rfl rfl rfl (fun _ => rfl) ?_
    refine mm_E.s rfl rfl rfl (fun _ => rfl) ?_
    exact mm_E.ret rfl rfl rfl

theorem g_put1 {h : mm_H} {ro co di tr : Int32} {has : Nat → Int32} (hO : mm_nth h 25 = some (x_mo ro co di tr)) (hH : mm_nth h 26 = some (x_ha has)) {kept : Nat → Int32} (h27 : mm_nth h 27 = some (x_it 512 kept)) {c s x : Int32} (hs : x_is has c s) (x9 : ¬ x < -9) (y9 : x ≤ 9) : mm_EC kM 96 [.ref 25, .int c, .int s, .int x] h (some (.int 1), h.set 27 (x_it 512 (upd kept (256 * c.toNatClampNeg + s.toNatClampNeg) x))) := by
  refine ⟨kq_96, rfl, rfl, ?_⟩
  have E1 := g_is1 hO hH hs
  obtain ⟨hc, ⟨h1, h2⟩, h3⟩ := hs
  obtain ⟨n, hn, rfl⟩ := x_c01 hc
  obtain ⟨j, hj, rfl⟩ := nI_of2 (x := s) (M := 255) (n := 255) rfl (fun q => h1 (Int32.lt_of_lt_of_le q (by decide))) (Int32.not_lt.mp h2)
  rw [mm_cl (by omega), mm_cl (by omega)]
  refine mm_E.s rfl rfl rfl (fun _ => rfl) ?_
  refine mm_E.s rfl rfl rfl (fun _ => rfl) ?_
  refine mm_E.s rfl rfl rfl (fun _ => rfl) ?_
  refine mm_E.iv rfl rfl rfl rfl hO rfl E1 ?_
  refine mm_E.s rfl rfl rfl (fun _ => rfl) ?_
  refine mm_E.s rfl rfl rfl (fun _ => rfl) ?_
  refine mm_E.s rfl rfl rfl (fun _ => rfl) ?_
  refine mm_E.s rfl rfl rfl (fun _ => if_neg x9) ?_
  refine mm_E.s rfl rfl rfl (fun _ => rfl) ?_
  refine mm_E.s rfl rfl rfl (fun _ => rfl) ?_
  refine mm_E.s rfl rfl rfl (fun _ => if_pos y9) ?_
  refine mm_E.s rfl rfl rfl (fun _ => rfl) ?_
  refine mm_E.gf rfl rfl rfl hO rfl ?_
  refine mm_E.s rfl rfl rfl (fun _ => rfl) ?_
  refine mm_E.s rfl rfl rfl (fun _ => rfl) ?_
  refine mm_E.s rfl rfl rfl (fun _ => rfl) ?_
  refine mm_E.s rfl rfl rfl (fun _ => rfl) ?_
  refine mm_E.s rfl rfl rfl (fun _ => rfl) ?_
  refine mm_E.ti _ (x_ix n j) ?_
  refine mm_E.s rfl rfl rfl (fun _ => rfl) ?_
  refine mm_E.is rfl rfl h27 (mm_bd (by omega) (by decide)) (mm_put_some _ _ _ (mm_nth_lt h27)) ?_
  rw [mm_cl (by omega)]
  refine mm_E.s rfl rfl rfl (fun _ => rfl) ?_
  exact mm_E.ret rfl rfl rfl
theorem g_put0 {h : mm_H} {ro co di tr : Int32} {has : Nat → Int32} (hO : mm_nth h 25 = some (x_mo ro co di tr)) (hH : mm_nth h 26 = some (x_ha has)) {c s x : Int32} (hs : ¬ (x_is has c s ∧ ¬ x < -9 ∧ x ≤ 9)) : mm_EC kM 96 [.ref 25, .int c, .int s, .int x] h (some (.int 0), h) := by
  refine ⟨kq_96, rfl, rfl, ?_⟩
  by_cases h0 : x_is has c s
  · by_cases h1 : x < -9
    · skip
      refine mm_E.s rfl rfl rfl (fun _ => rfl) ?_
      refine mm_E.s rfl rfl rfl (fun _ => rfl) ?_
      refine mm_E.s rfl rfl rfl (fun _ => rfl) ?_
      refine mm_E.iv rfl rfl rfl rfl hO rfl (g_is1 hO hH h0) ?_
      refine mm_E.s rfl rfl rfl (fun _ => rfl) ?_
      refine mm_E.s rfl rfl rfl (fun _ => rfl) ?_
      refine mm_E.s rfl rfl rfl (fun _ => rfl) ?_
      refine mm_E.s rfl rfl rfl (fun _ => if_pos h1) ?_
      refine mm_E.s rfl rfl rfl (fun _ => rfl) ?_
      exact mm_E.ret rfl rfl rfl
    · have h2 : ¬ x ≤ 9 := fun q => hs ⟨h0, h1, q⟩
      refine mm_E.s rfl rfl rfl (fun _ => rfl) ?_
      refine mm_E.s rfl rfl rfl (fun _ => rfl) ?_
      refine mm_E.s rfl rfl rfl (fun _ => rfl) ?_
      refine mm_E.iv rfl rfl rfl rfl hO rfl (g_is1 hO hH h0) ?_
      refine mm_E.s rfl rfl rfl (fun _ => rfl) ?_
      refine mm_E.s rfl rfl rfl (fun _ => rfl) ?_
      refine mm_E.s rfl rfl rfl (fun _ => rfl) ?_
      refine mm_E.s rfl rfl rfl (fun _ => if_neg h1) ?_
      refine mm_E.s rfl rfl rfl (fun _ => rfl) ?_
      refine mm_E.s rfl rfl rfl (fun _ => rfl) ?_
      refine mm_E.s rfl rfl rfl (fun _ => if_neg h2) ?_
      refine mm_E.s rfl rfl rfl (fun _ => rfl) ?_
      exact mm_E.ret rfl rfl rfl
  · skip
    refine mm_E.s rfl rfl rfl (fun _ => rfl) ?_
    refine mm_E.s rfl rfl rfl (fun _ => rfl) ?_
    refine mm_E.s rfl rfl rfl (fun _ => rfl) ?_
    refine mm_E.iv rfl rfl rfl rfl hO rfl (g_is0 hO hH h0) ?_
    refine mm_E.s rfl rfl rfl (fun _ => rfl) ?_
    refine mm_E.s rfl rfl rfl (fun _ => rfl) ?_
    exact mm_E.ret rfl rfl rfl

