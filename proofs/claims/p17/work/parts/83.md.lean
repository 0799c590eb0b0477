/-! THE REFERENCE'S DIAGONAL: its methods -/
theorem x_lz {x : Int64} (h : lg_cmp x 0 = 0) : x = 0 := (lg_cmp_eq x 0).mp h
theorem x_lnz {x : Int64} (h : ¬ lg_cmp x 0 = 0) : ¬ x = 0 := fun q => h ((lg_cmp_eq x 0).mpr q)
theorem x_swp_tw {wo : Nat → Int64} {i t p q : Nat} (hq : q < 48) : x_swp wo i t 48 p q = wo (48 * x_tw i t p + q) := if_pos hq
/-- what falls -/
def x_me (w p : Int64) : Nat := 2 * p.toInt.natAbs + (if w = 0 then 0 else 1)
theorem x_me_0 {w p p' : Int64} (hw : ¬ w = 0) (hp : p' = p) {w' : Int64} (h0 : w' = 0) : x_me w' p' < x_me w p := by
  unfold x_me
  rw [if_neg hw, if_pos h0, hp]
  omega
theorem x_me_1 {w p p' : Int64} (hw : ¬ w = 0) (hp : p'.toInt.natAbs < p.toInt.natAbs) (w' : Int64) : x_me w' p' < x_me w p := by
  unfold x_me
  rw [if_neg hw]
  split <;> omega
theorem x_rp_s {wo2 wo3 : Nat → Int64} {q : Int64} {i t j : Nat} (hi : i < 48) (hj : j < 48) (ht : t < 48) (hne : t ≠ i) (htj : t ≤ j) (hw : ∀ a b, a < 48 → b < 48 → wo3 (48 * a + b) = if a = i ∧ t ≤ b ∧ b < j then wo2 (48 * i + b) - q * wo2 (48 * t + b) else wo2 (48 * a + b)) : ∀ a b, a < 48 → b < 48 → vp_updL wo3 (48 * i + j) (wo3 (48 * i + j) - q * wo3 (48 * t + j)) (48 * a + b) = if a = i ∧ t ≤ b ∧ b < j + 1 then wo2 (48 * i + b) - q * wo2 (48 * t + b) else wo2 (48 * a + b) := by
  intro a b ha hb
  have z1 : wo3 (48 * i + j) = wo2 (48 * i + j) := by rw [hw i j hi hj, if_neg (by omega)]
  have z2 : wo3 (48 * t + j) = wo2 (48 * t + j) := by rw [hw t j ht hj, if_neg (by omega)]
  rw [x_ul2 _ hj hb, z1, z2]
  by_cases e : a = i ∧ b = j
  · rw [if_pos e, if_pos ⟨e.1, by omega, by omega⟩, e.2]
  · rw [if_neg e, hw a b ha hb]
    by_cases c : a = i ∧ t ≤ b ∧ b < j
    · rw [if_pos c, if_pos ⟨c.1, c.2.1, by omega⟩]
    · rw [if_neg c, if_neg (by omega)]
theorem x_c0_s {wo2 wo3 : Nat → Int64} {q : Int64} {n t j : Nat} (hn : n < 48) (hj : j < 48) (ht : t < 48) (hne : t ≠ j) (htn : t ≤ n) (hw : ∀ a b, a < 48 → b < 48 → wo3 (48 * a + b) = if t ≤ a ∧ a < n ∧ b = j then wo2 (48 * a + j) - q * wo2 (48 * a + t) else wo2 (48 * a + b)) : ∀ a b, a < 48 → b < 48 → vp_updL (vp_updL wo3 (48 * n + j) (wo3 (48 * n + j) - q * wo3 (48 * n + t))) (48 * n + t) (vp_updL wo3 (48 * n + j) (wo3 (48 * n + j) - q * wo3 (48 * n + t)) (48 * n + t)) (48 * a + b) = if t ≤ a ∧ a < n + 1 ∧ b = j then wo2 (48 * a + j) - q * wo2 (48 * a + t) else wo2 (48 * a + b) := by
  intro a b ha hb
  have e0 : vp_updL (vp_updL wo3 (48 * n + j) (wo3 (48 * n + j) - q * wo3 (48 * n + t))) (48 * n + t) (vp_updL wo3 (48 * n + j) (wo3 (48 * n + j) - q * wo3 (48 * n + t)) (48 * n + t)) (48 * a + b) = vp_updL wo3 (48 * n + j) (wo3 (48 * n + j) - q * wo3 (48 * n + t)) (48 * a + b) := by
    rw [x_ul _ (48 * n + t)]
    by_cases e : 48 * a + b = 48 * n + t
    · rw [if_pos e, e]
    · rw [if_neg e]
  have z1 : wo3 (48 * n + j) = wo2 (48 * n + j) := by rw [hw n j hn hj, if_neg (by omega)]
  have z2 : wo3 (48 * n + t) = wo2 (48 * n + t) := by rw [hw n t hn ht, if_neg (by omega)]
  rw [e0, x_ul2 _ hj hb, z1, z2]
  by_cases e : a = n ∧ b = j
  · rw [if_pos e, if_pos ⟨by omega, by omega, e.2⟩, e.1]
  · rw [if_neg e, hw a b ha hb]
    by_cases c : t ≤ a ∧ a < n ∧ b = j
    · rw [if_pos c, if_pos ⟨c.1, by omega, c.2.2⟩]
    · rw [if_neg c, if_neg (by omega)]
def x_cv (wo2 : Nat → Int64) (q : Int64) (t j n a b : Nat) : Int64 := if t ≤ a ∧ a < n then (if b = j then wo2 (48 * a + t) else if b = t then wo2 (48 * a + j) - q * wo2 (48 * a + t) else wo2 (48 * a + b)) else wo2 (48 * a + b)
theorem x_c1_s {wo2 wo3 : Nat → Int64} {q : Int64} {n t j : Nat} (hn : n < 48) (hj : j < 48) (ht : t < 48) (hne : t ≠ j) (htn : t ≤ n) (hw : ∀ a b, a < 48 → b < 48 → wo3 (48 * a + b) = x_cv wo2 q t j n a b) : ∀ a b, a < 48 → b < 48 → vp_updL (vp_updL wo3 (48 * n + j) (wo3 (48 * n + t))) (48 * n + t) (wo3 (48 * n + j) - q * wo3 (48 * n + t)) (48 * a + b) = x_cv wo2 q t j (n + 1) a b := by
  intro a b ha hb
  have z1 : wo3 (48 * n + j) = wo2 (48 * n + j) := by rw [hw n j hn hj]; unfold x_cv; rw [if_neg (by omega)]
  have z2 : wo3 (48 * n + t) = wo2 (48 * n + t) := by rw [hw n t hn ht]; unfold x_cv; rw [if_neg (by omega)]
  rw [x_ul2 _ ht hb, x_ul2 _ hj hb, z1, z2, hw a b ha hb]
  unfold x_cv
  by_cases e : a = n
  · rw [if_neg (show ¬ (t ≤ a ∧ a < n) by omega), if_pos (show t ≤ a ∧ a < n + 1 by omega), e]
    by_cases e1 : b = j
    · rw [if_neg (by omega), if_pos ⟨rfl, e1⟩, if_pos e1]
    · by_cases e2 : b = t
      · rw [if_pos ⟨rfl, e2⟩, if_neg e1, if_pos e2]
      · rw [if_neg (by omega), if_neg (by omega), if_neg e1, if_neg e2]
  · rw [if_neg (by omega), if_neg (by omega)]
    by_cases c : t ≤ a ∧ a < n
    · rw [if_pos c, if_pos (show t ≤ a ∧ a < n + 1 by omega)]
    · rw [if_neg c, if_neg (show ¬ (t ≤ a ∧ a < n + 1) by omega)]
theorem x_cx_s {wo1 wo2 : Nat → Int64} {r t j : Nat} (hr : r < 48) (hj : j < 48) (ht : t < 48) (hw : ∀ a b, a < 48 → b < 48 → wo2 (48 * a + b) = if a < r then wo1 (48 * a + x_tw j t b) else wo1 (48 * a + b)) : ∀ a b, a < 48 → b < 48 → vp_updL (vp_updL wo2 (48 * r + j) (wo2 (48 * r + t))) (48 * r + t) (wo2 (48 * r + j)) (48 * a + b) = if a < r + 1 then wo1 (48 * a + x_tw j t b) else wo1 (48 * a + b) := by
  intro a b ha hb
  have z1 : wo2 (48 * r + j) = wo1 (48 * r + j) := by rw [hw r j hr hj, if_neg (by omega)]
  have z2 : wo2 (48 * r + t) = wo1 (48 * r + t) := by rw [hw r t hr ht, if_neg (by omega)]
  rw [x_ul2 _ ht hb, x_ul2 _ hj hb, z1, z2, hw a b ha hb]
  by_cases e : a = r
  · rw [if_neg (show ¬ a < r by omega), if_pos (show a < r + 1 by omega), e]
    by_cases e2 : b = t
    · rw [if_pos ⟨rfl, e2⟩, e2, x_tw_r]
    · rw [if_neg (by omega)]
      by_cases e1 : b = j
      · rw [if_pos ⟨rfl, e1⟩, e1, x_tw_l]
      · rw [if_neg (by omega), x_tw_n e1 e2]
  · rw [if_neg (by omega), if_neg (by omega)]
    by_cases c : a < r
    · rw [if_pos c, if_pos (show a < r + 1 by omega)]
    · rw [if_neg c, if_neg (show ¬ a < r + 1 by omega)]
theorem m_common {h0 : mm_H} {a : Int64} (ha : ¬ a = 0) (b : Int64) : mm_TC kM 93 [.long a, .long b] h0 (fun v h => (∃ z, v = some (.long z) ∧ ¬ z = 0 ∧ z.toInt ∣ a.toInt ∧ z.toInt ∣ b.toInt) ∧ h = h0) := by
  refine mm_TC.of (M := kq_93) rfl rfl ?_
  refine mm_T.s rfl rfl rfl (fun _ => rfl) ?_
  refine mm_T.s rfl rfl rfl (fun _ => rfl) ?_
  refine mm_T.s rfl rfl rfl (fun _ => rfl) ?_
  refine mm_T.s rfl rfl rfl (fun _ => rfl) ?_
  refine mm_T.wf (P := fun m L h => ∃ x y y8 y9, m = y.toInt.natAbs ∧ (¬ x = 0 ∨ ¬ y = 0) ∧ (∀ d : Int, d ∣ x.toInt → d ∣ y.toInt → d ∣ a.toInt ∧ d ∣ b.toInt) ∧ L = [some (.long a), none, some (.long b), none, some (.long x), none, some (.long y), none, y8, y9] ∧ h = h0) ?_ _ _ _ ⟨_, _, _, _, rfl, Or.inl ha, fun d h1 h2 => ⟨h1, h2⟩, rfl, rfl⟩
  rintro m _ _ ⟨x, y, y8, y9, rfl, hn, hd, rfl, rfl⟩ K
  refine mm_T.s rfl rfl rfl (fun _ => rfl) ?_
  refine mm_T.s rfl rfl rfl (fun _ => rfl) ?_
  refine mm_T.s rfl rfl rfl (fun _ => rfl) ?_
  refine mm_T.cz rfl rfl (fun hb10 => ?_) (fun hb10 => ?_)
  · skip
    have hy := x_lz hb10
    subst hy
    have hx : ¬ x = 0 := hn.resolve_right (fun q => q rfl)
    have hdx := hd x.toInt (Int.dvd_refl _) (Int.dvd_zero _)
    refine mm_T.s rfl rfl rfl (fun _ => rfl) ?_
    exact mm_T.ret rfl rfl rfl (⟨⟨_, rfl, hx, hdx⟩, rfl⟩)
  · skip
    have hd2 : ∀ d : Int, d ∣ y.toInt → d ∣ (x - x / y * y).toInt → d ∣ a.toInt ∧ d ∣ b.toInt := fun d h1 h2 => by
      rw [x_lrem] at h2
      refine hd d ?_ h1
      have e := Int.tmod_add_mul_tdiv x.toInt y.toInt
      rw [← e]
      exact Int.dvd_add h2 (Int.dvd_mul_of_dvd_left h1)
    refine mm_T.s rfl rfl rfl (fun _ => rfl) ?_
    refine mm_T.s rfl rfl rfl (fun _ => rfl) ?_
    refine mm_T.s rfl rfl rfl (fun _ => if_neg (x_lnz hb10)) ?_
    refine mm_T.s rfl rfl rfl (fun _ => rfl) ?_
    refine mm_T.s rfl rfl rfl (fun _ => rfl) ?_
    refine mm_T.s rfl rfl rfl (fun _ => rfl) ?_
    refine mm_T.s rfl rfl rfl (fun _ => rfl) ?_
    refine mm_T.s rfl rfl rfl (fun _ => rfl) ?_
    refine mm_T.s rfl rfl rfl (fun _ => rfl) ?_
    exact K _ _ _ (x_rem_lt x (x_lnz hb10)) ⟨_, _, _, _, rfl, Or.inl (x_lnz hb10), hd2, rfl, rfl⟩
theorem x_start_ok {Rn Cn : Nat} (hR : Rn ≤ 48) (hC : Cn ≤ 48) {t i j : Nat} {A : Nat → Nat → Int} {wo wo1 wo2 : Nat → Int64} (ht : t < Rn) (htj : t ≤ j) (hj : j < Cn) (hti : t ≤ i) (hi : i < Rn) (hRl : x_Rl Rn Cn A wo) (hZr : x_Zr Rn Cn t wo) (hn : ¬ wo (48 * i + j) = 0) (hw1 : ∀ p q, p < 48 → q < 48 → wo1 (48 * p + q) = x_swp wo i t 48 p q) (hw2 : ∀ a b, a < 48 → b < 48 → wo2 (48 * a + b) = if a < Rn then wo1 (48 * a + x_tw j t b) else wo1 (48 * a + b)) : x_DS Rn Cn t A wo2 wo2 ∧ ∀ a, a < t → wo2 (48 * a + a) = wo (48 * a + a) := by
  have e1 : ∀ a b, a < Rn → b < Cn → wo1 (48 * a + b) = wo (48 * x_tw i t a + b) := fun a b ha hb => by rw [hw1 a b (by omega) (by omega), x_swp_tw (by omega)]
  have e2 : ∀ a b, a < Rn → b < Cn → wo2 (48 * a + b) = wo1 (48 * a + x_tw j t b) := fun a b ha hb => by rw [hw2 a b (by omega) (by omega), if_pos ha]
  have e3 : ∀ a b, a < Rn → b < Cn → wo2 (48 * a + b) = wo (48 * x_tw i t a + x_tw j t b) := fun a b ha hb => by rw [e2 a b ha hb, e1 a _ ha (x_tw_lt hj (by omega) hb)]
  have hd : ∀ a, a < t → wo2 (48 * a + a) = wo (48 * a + a) := fun a ha => by rw [e3 a a (by omega) (by omega), x_tw_n (by omega) (by omega), x_tw_n (by omega) (by omega)]
  refine ⟨⟨(hRl.rows (σ := x_tw i t) (fun a ha => x_tw_lt hi ht ha) (fun a _ => x_tw_v i t a) e1).cols (σ := x_tw j t) (fun a ha => x_tw_lt hj (by omega) ha) (fun a _ => x_tw_v j t a) e2, fun a b ha hb hab hne => ?_, ?_, Nat.le_refl _, fun a _ => rfl⟩, hd⟩
  · rw [e3 a b ha hb]
    refine hZr _ _ (x_tw_lt hi ht ha) (x_tw_lt hj (by omega) hb) ?_ ?_
    · unfold x_tw
      repeat' split
      all_goals omega
    · unfold x_tw
      repeat' split
      all_goals omega
  · rw [e3 t t ht (by omega), x_tw_r, x_tw_r]
    exact hn
theorem m_start {c : Nat → mm_C} {has ke f cy sp e1 e2 e3 : Nat → Int32} {ma wo dv : Nat → Int64} {di tr : Int32} {Rn Cn : Nat} (hR : Rn ≤ 48) (hC : Cn ≤ 48) {t : Nat} {A : Nat → Nat → Int} (ht : t < Rn) (htc : t < Cn) (hRl : x_Rl Rn Cn A wo) (hZr : x_Zr Rn Cn t wo) : mm_TC kM 89 [.ref 25, .int (nI t)] (kD c has ke f ma wo dv cy sp e1 e2 e3 (nI Rn) (nI Cn) di tr) (fun v h => (v = some (.int 1) ∧ ∃ wo1, (x_DS Rn Cn t A wo1 wo1 ∧ ∀ a, a < t → wo1 (48 * a + a) = wo (48 * a + a)) ∧ h = (kD c has ke f ma wo1 dv cy sp e1 e2 e3 (nI Rn) (nI Cn) di tr)) ∨ (v = some (.int 0) ∧ (∀ a b, t ≤ a → a < Rn → t ≤ b → b < Cn → wo (48 * a + b) = 0) ∧ h = (kD c has ke f ma wo dv cy sp e1 e2 e3 (nI Rn) (nI Cn) di tr))) := by
  refine mm_TC.of (M := kq_89) rfl rfl ?_
  refine mm_T.s rfl rfl rfl (fun _ => rfl) ?_
  refine mm_T.s rfl rfl rfl (fun _ => rfl) ?_
  refine mm_T.up (n := Cn) (P := fun i L h => ∃ x2 y3 y4 y5 y6, t ≤ i ∧ x2 = nI i ∧ (∀ a b, t ≤ a → a < Rn → t ≤ b → b < i → wo (48 * a + b) = 0) ∧ L = [some (.ref 25), some (.int (nI t)), some (.int x2), y3, y4, y5, y6] ∧ h = (kD c has ke f ma wo dv cy sp e1 e2 e3 (nI Rn) (nI Cn) di tr)) ?_ ?_ t (Nat.le_of_lt htc) _ _ ⟨_, _, _, _, _, Nat.le_refl _, rfl, fun a b h1 h2 h3 h4 => by omega, rfl, rfl⟩
  · skip
    rintro j _ _ hj ⟨x2, y3, y4, y5, y6, htj, rfl, hz1, rfl, rfl⟩ K
    refine mm_T.s rfl rfl rfl (fun _ => rfl) ?_
    refine mm_T.s rfl rfl rfl (fun _ => rfl) ?_
    refine mm_T.gf rfl rfl rfl rfl rfl ?_
    refine mm_T.s rfl rfl rfl (fun _ => if_neg (nI_ge hj (by omega))) ?_
    refine mm_T.s rfl rfl rfl (fun _ => rfl) ?_
    refine mm_T.s rfl rfl rfl (fun _ => rfl) ?_
    refine mm_T.up (n := Rn) (P := fun i L h => ∃ x3, t ≤ i ∧ x3 = nI i ∧ (∀ a, t ≤ a → a < i → wo (48 * a + j) = 0) ∧ L = [some (.ref 25), some (.int (nI t)), some (.int (nI j)), some (.int x3), y4, y5, y6] ∧ h = (kD c has ke f ma wo dv cy sp e1 e2 e3 (nI Rn) (nI Cn) di tr)) ?_ ?_ t (Nat.le_of_lt ht) _ _ ⟨_, Nat.le_refl _, rfl, fun a h1 h2 => by omega, rfl, rfl⟩
    · skip
      rintro i0 _ _ hi0 ⟨x3, hti, rfl, hz2, rfl, rfl⟩ K2
      refine mm_T.s rfl rfl rfl (fun _ => rfl) ?_
      refine mm_T.s rfl rfl rfl (fun _ => rfl) ?_
      refine mm_T.gf rfl rfl rfl rfl rfl ?_
      refine mm_T.s rfl rfl rfl (fun _ => if_neg (nI_ge hi0 (by omega))) ?_
      refine mm_T.s rfl rfl rfl (fun _ => rfl) ?_
      refine mm_T.gf rfl rfl rfl rfl rfl ?_
      refine mm_T.s rfl rfl rfl (fun _ => rfl) ?_
      refine mm_T.s rfl rfl rfl (fun _ => rfl) ?_
      refine mm_T.s rfl rfl rfl (fun _ => rfl) ?_
      refine mm_T.s rfl rfl rfl (fun _ => rfl) ?_
      refine mm_T.s rfl rfl rfl (fun _ => rfl) ?_
      refine mm_T.ti _ (x_84 _ _) ?_
      refine mm_T.laN rfl rfl rfl (by omega) (by decide) rfl ?_
      refine mm_T.s rfl rfl rfl (fun _ => rfl) ?_
      refine mm_T.s rfl rfl rfl (fun _ => rfl) ?_
      refine mm_T.cz rfl rfl (fun hb33 => ?_) (fun hb33 => ?_)
      · skip
        have hz3 : ∀ a, t ≤ a → a < i0 + 1 → wo (48 * a + j) = 0 := fun a h1 h2 => by
          by_cases e : a = i0
          · rw [e]
            exact x_lz hb33
          · exact hz2 a h1 (by omega)
        refine mm_T.s rfl rfl rfl (fun _ => rfl) ?_
        refine mm_T.s rfl rfl rfl (fun _ => rfl) ?_
        exact K2 _ _ ⟨_, Nat.le_succ_of_le hti, nI_1 i0, hz3, rfl, rfl⟩
      · skip
        refine mm_T.s rfl rfl rfl (fun _ => rfl) ?_
        refine mm_T.s rfl rfl rfl (fun _ => rfl) ?_
        refine mm_T.s rfl rfl rfl (fun _ => rfl) ?_
        refine mm_T.ivw rfl rfl rfl rfl rfl rfl (m_ex (by omega) (by omega)) ?_
        rintro _ _ ⟨rfl, wo1, hw1, rfl⟩
        refine mm_T.s rfl rfl rfl (fun _ => rfl) ?_
        refine mm_T.s rfl rfl rfl (fun _ => rfl) ?_
        refine mm_T.up (n := Rn) (P := fun i L h => ∃ x4 y5 y6 wo2, x4 = nI i ∧ (∀ a b, a < 48 → b < 48 → wo2 (48 * a + b) = if a < i then wo1 (48 * a + x_tw j t b) else wo1 (48 * a + b)) ∧ L = [some (.ref 25), some (.int (nI t)), some (.int (nI j)), some (.int (nI i0)), some (.int x4), y5, y6] ∧ h = (kD c has ke f ma wo2 dv cy sp e1 e2 e3 (nI Rn) (nI Cn) di tr)) ?_ ?_ 0 (Nat.zero_le _) _ _ ⟨_, _, _, _, rfl, fun a b _ _ => by rw [if_neg (Nat.not_lt_zero a)], rfl, rfl⟩
        · skip
          rintro i _ _ hi ⟨x4, y5, y6, wo2, rfl, hw, rfl, rfl⟩ K3
          refine mm_T.s rfl rfl rfl (fun _ => rfl) ?_
          refine mm_T.s rfl rfl rfl (fun _ => rfl) ?_
          refine mm_T.gf rfl rfl rfl rfl rfl ?_
          refine mm_T.s rfl rfl rfl (fun _ => if_neg (nI_ge hi (by omega))) ?_
          refine mm_T.s rfl rfl rfl (fun _ => rfl) ?_
          refine mm_T.gf rfl rfl rfl rfl rfl ?_
          refine mm_T.s rfl rfl rfl (fun _ => rfl) ?_
          refine mm_T.s rfl rfl rfl (fun _ => rfl) ?_
          refine mm_T.s rfl rfl rfl (fun _ => rfl) ?_
          refine mm_T.s rfl rfl rfl (fun _ => rfl) ?_
          refine mm_T.s rfl rfl rfl (fun _ => rfl) ?_
          refine mm_T.ti _ (x_84 _ _) ?_
          refine mm_T.laN rfl rfl rfl (by omega) (by decide) rfl ?_
          refine mm_T.s rfl rfl rfl (fun _ => rfl) ?_
          refine mm_T.s rfl rfl rfl (fun _ => rfl) ?_
          refine mm_T.gf rfl rfl rfl rfl rfl ?_
          refine mm_T.s rfl rfl rfl (fun _ => rfl) ?_
          refine mm_T.s rfl rfl rfl (fun _ => rfl) ?_
          refine mm_T.s rfl rfl rfl (fun _ => rfl) ?_
          refine mm_T.s rfl rfl rfl (fun _ => rfl) ?_
          refine mm_T.s rfl rfl rfl (fun _ => rfl) ?_
          refine mm_T.ti _ (x_84 _ _) ?_
          refine mm_T.s rfl rfl rfl (fun _ => rfl) ?_
          refine mm_T.gf rfl rfl rfl rfl rfl ?_
          refine mm_T.s rfl rfl rfl (fun _ => rfl) ?_
          refine mm_T.s rfl rfl rfl (fun _ => rfl) ?_
          refine mm_T.s rfl rfl rfl (fun _ => rfl) ?_
          refine mm_T.s rfl rfl rfl (fun _ => rfl) ?_
          refine mm_T.s rfl rfl rfl (fun _ => rfl) ?_
          refine mm_T.ti _ (x_84 _ _) ?_
          refine mm_T.laN rfl rfl rfl (by omega) (by decide) rfl ?_
          refine mm_T.lsN rfl rfl rfl (by omega) (by decide) rfl ?_
          refine mm_T.s rfl rfl rfl (fun _ => rfl) ?_
          refine mm_T.gf rfl rfl rfl rfl rfl ?_
          refine mm_T.s rfl rfl rfl (fun _ => rfl) ?_
          refine mm_T.s rfl rfl rfl (fun _ => rfl) ?_
          refine mm_T.s rfl rfl rfl (fun _ => rfl) ?_
          refine mm_T.s rfl rfl rfl (fun _ => rfl) ?_
          refine mm_T.s rfl rfl rfl (fun _ => rfl) ?_
          refine mm_T.ti _ (x_84 _ _) ?_
          refine mm_T.s rfl rfl rfl (fun _ => rfl) ?_
          refine mm_T.lsN rfl rfl rfl (by omega) (by decide) rfl ?_
          refine mm_T.s rfl rfl rfl (fun _ => rfl) ?_
          refine mm_T.s rfl rfl rfl (fun _ => rfl) ?_
          exact K3 _ _ ⟨_, _, _, _, nI_1 i, x_cx_s (by omega) (by omega) (by omega) hw, rfl, rfl⟩
        · skip
          rintro _ _ ⟨x4, y5, y6, wo2, rfl, hw, rfl, rfl⟩
          refine mm_T.s rfl rfl rfl (fun _ => rfl) ?_
          refine mm_T.s rfl rfl rfl (fun _ => rfl) ?_
          refine mm_T.gf rfl rfl rfl rfl rfl ?_
          refine mm_T.s rfl rfl rfl (fun _ => if_pos (nI_le (Nat.le_refl _) (by omega))) ?_
          refine mm_T.s rfl rfl rfl (fun _ => rfl) ?_
          exact mm_T.ret rfl rfl rfl (Or.inl ⟨rfl, _, x_start_ok hR hC ht htj hj hti hi0 hRl hZr (x_lnz hb33) hw1 hw, rfl⟩)
    · skip
      rintro _ _ ⟨x3, hti, rfl, hz2, rfl, rfl⟩
      refine mm_T.s rfl rfl rfl (fun _ => rfl) ?_
      refine mm_T.s rfl rfl rfl (fun _ => rfl) ?_
      refine mm_T.gf rfl rfl rfl rfl rfl ?_
      refine mm_T.s rfl rfl rfl (fun _ => if_pos (nI_le (Nat.le_refl _) (by omega))) ?_
      refine mm_T.s rfl rfl rfl (fun _ => rfl) ?_
      refine mm_T.s rfl rfl rfl (fun _ => rfl) ?_
      exact K _ _ ⟨_, _, _, _, _, Nat.le_succ_of_le htj, nI_1 j, fun a b h1 h2 h3 h4 => by
        by_cases e : b = j
        · rw [e]
          exact hz2 a h1 h2
        · exact hz1 a b h1 h2 h3 (by omega), rfl, rfl⟩
  · skip
    rintro _ _ ⟨x2, y3, y4, y5, y6, htj, rfl, hz1, rfl, rfl⟩
    refine mm_T.s rfl rfl rfl (fun _ => rfl) ?_
    refine mm_T.s rfl rfl rfl (fun _ => rfl) ?_
    refine mm_T.gf rfl rfl rfl rfl rfl ?_
    refine mm_T.s rfl rfl rfl (fun _ => if_pos (nI_le (Nat.le_refl _) (by omega))) ?_
    refine mm_T.s rfl rfl rfl (fun _ => rfl) ?_
    exact mm_T.ret rfl rfl rfl (Or.inr ⟨rfl, hz1, rfl⟩)
