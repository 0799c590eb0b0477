/-! COUNTER AND REFERENCE SIDE BY SIDE -/
/-- one complex, as the counter and as the reference hold it -/
def x_J1 (pl ke has kp : Nat → Int32) (n : Nat) : Prop := (∀ q, q < 256 → (has (256 * n + q) = 0 ↔ pl q = -1)) ∧ (∀ q, q < 256 → kp (256 * n + q) = ke q) ∧ (∀ q, q < 256 → pl q = -1 → ke q = 0) ∧ ∀ q, q < 256 → (ke q).toInt.natAbs ≤ 9
theorem x_sub1 (x y : Int32) : x - 1 = y ↔ x = y + 1 := by
  constructor
  · intro h
    rw [← h, Int32.sub_add_cancel]
  · intro h
    rw [h, Int32.add_sub_cancel]
theorem x_dm_sz {q : Nat} (hq : q < 256) (k : Int32) : x_dm (nI q) = k ↔ x_sz8 (nI q) 8 = k + 1 := by
  unfold x_dm
  rw [x_sub1, x_bcz q hq]
theorem x_J1.cd {pl ke has kp : Nat → Int32} {n : Nat} (h : x_J1 pl ke has kp n) {q : Nat} (hq : q < 256) (k : Int32) : x_cd has n k q ↔ (¬ pl q = -1 ∧ x_dm (nI q) = k) := by
  unfold x_cd
  rw [h.1 q hq, x_dm_sz hq]
theorem x_J1.mn {pl ke has kp : Nat → Int32} {n : Nat} (h : x_J1 pl ke has kp n) (a : Nat) : ∀ t, t ≤ 255 → x_mn has n (nI a) t = x_ct pl a t
  | 0, _ => rfl
  | t + 1, ht => by
    have ih := h.mn a t (by omega)
    by_cases c : x_cd has n (nI a) (t + 1)
    · rw [x_mn_y c, ih]
      exact (if_pos ((h.cd (by omega) _).mp c)).symm
    · rw [x_mn_n c, ih]
      exact (if_neg (fun q => c ((h.cd (by omega) _).mpr q))).symm
theorem x_mn_0 {has : Nat → Int32} {n : Nat} {k : Int32} (h : ∀ q, 1 ≤ q → q ≤ 255 → ¬ x_cd has n k q) : ∀ t, t ≤ 255 → x_mn has n k t = 0
  | 0, _ => rfl
  | t + 1, ht => by rw [x_mn_n (h (t + 1) (by omega) ht), x_mn_0 h t (by omega)]
theorem x_J1.m {pl ke has kp sz se : Nat → Int32} {n : Nat} (h : x_J1 pl ke has kp n) (hI : x_CI pl sz se) (k : Int32) : x_mn has n k 255 = x_m pl k := by
  by_cases c : ∃ a, a < 4 ∧ k = nI a
  · obtain ⟨a, ha, rfl⟩ := c
    rw [x_m_a ha]
    exact h.mn a 255 (Nat.le_refl _)
  · rcases x_m_cases pl k with ⟨a, ha, e, -⟩ | e
    · exact absurd ⟨a, ha, e⟩ c
    · rw [e]
      refine x_mn_0 (fun q h1 h2 hc => c ?_) 255 (Nat.le_refl _)
      obtain ⟨h3, h4⟩ := (h.cd (by omega) _).mp hc
      obtain ⟨a, ha, h5, -⟩ := hI.2.1 q h1 (by omega) h3
      exact ⟨a, ha, h4.symm.trans h5⟩
theorem x_sz_dm {pl sz se : Nat → Int32} (hI : x_CI pl sz se) {q : Nat} (h1 : 1 ≤ q) (hq : q < 256) (hp : ¬ pl q = -1) : x_sz8 (nI q) 8 ≤ 4 := by
  obtain ⟨a, ha, h5, -⟩ := hI.2.1 q h1 hq hp
  rw [(x_dm_sz hq _).mp h5, nI_1]
  exact nI_le (b := 4) (by omega) (by decide)
theorem x_J1.m4 {pl0 ke0 sz0 se0 pl1 ke1 sz1 se1 has kp : Nat → Int32} (h0 : x_J1 pl0 ke0 has kp 0) (h1 : x_J1 pl1 ke1 has kp 1) (hI0 : x_CI pl0 sz0 se0) (hI1 : x_CI pl1 sz1 se1) : x_M4 has := fun n q hn hq1 hq hh => by
  have : n = 0 ∨ n = 1 := by omega
  rcases this with rfl | rfl
  · exact x_sz_dm hI0 hq1 hq (fun z => hh ((h0.1 q hq).mpr z))
  · exact x_sz_dm hI1 hq1 hq (fun z => hh ((h1.1 q hq).mpr z))
theorem x_J1.mi {pl0 ke0 sz0 se0 pl1 ke1 sz1 se1 has kp : Nat → Int32} (h0 : x_J1 pl0 ke0 has kp 0) (h1 : x_J1 pl1 ke1 has kp 1) (hI0 : x_CI pl0 sz0 se0) (hI1 : x_CI pl1 sz1 se1) : x_MI has := fun n hn k => by
  have : n = 0 ∨ n = 1 := by omega
  rcases this with rfl | rfl
  · rw [h0.m hI0]
    exact x_m_le hI0 k
  · rw [h1.m hI1]
    exact x_m_le hI1 k
theorem x_J1.k9 {pl0 ke0 pl1 ke1 has kp : Nat → Int32} (h0 : x_J1 pl0 ke0 has kp 0) (h1 : x_J1 pl1 ke1 has kp 1) : x_K9 kp := fun q hq => by
  by_cases c : q < 256
  · have z := h0.2.1 q c
    rw [Nat.mul_zero, Nat.zero_add] at z
    rw [z]
    exact h0.2.2.2 q c
  · have z := h1.2.1 (q - 256) (by omega)
    rw [show 256 * 1 + (q - 256) = q by omega] at z
    rw [z]
    exact h1.2.2.2 _ (by omega)
/-- all that stays between two calls -/
def x_JI (h : mm_H) : Prop := ∃ (pl0 ke0 sz0 se0 gr0 pl1 ke1 sz1 se1 gr1 im ce wo pv fa pm pw fr ba : Nat → Int32) (rw : Nat → Int64) (ro co mo : Int32) (mi : Int64) (ki : Int32) (has ke f : Nat → Int32) (ma wq dv : Nat → Int64) (cy sp e1 e2 e3 : Nat → Int32) (rn cn di tr : Int32), x_CI pl0 sz0 se0 ∧ x_CI pl1 sz1 se1 ∧ x_fo im ∧ (∀ v, v < 8 → im v = f v) ∧ x_J1 pl0 ke0 has ke 0 ∧ x_J1 pl1 ke1 has ke 1 ∧ h = kC pl0 ke0 sz0 se0 gr0 pl1 ke1 sz1 se1 gr1 im ce wo pv fa pm pw fr ba rw ro co mo mi ki (kE has ke f ma wq dv cy sp e1 e2 e3 rn cn di tr)
/-- one call on each side: both end, and the state stays; if E holds, they answer alike -/
def x_e (kc : Nat) (As : List Value) (h : mm_H) (v1 : Int32) (h1 : mm_H) : Prop := mm_EC kM kc (.ref 0 :: As) h (some (.int v1), h1) ∧ ∃ fs, mm_nth h1 25 = some (.inr (4, fs))
theorem x_e1 {kc : Nat} {As : List Value} {h : mm_H} {v1 : Int32} {h1 : mm_H} {fs : List Value} (E : mm_EC kM kc (.ref 0 :: As) h (some (.int v1), h1)) (ho : mm_nth h1 25 = some (.inr (4, fs))) : x_e kc As h v1 h1 := ⟨E, fs, ho⟩
def x_2 (kc km : Nat) (As : List Value) (h : mm_H) (E : Prop) : Prop := ∃ v1 v2 h1 h2, x_e kc As h v1 h1 ∧ mm_EC kM km (.ref 25 :: As) h1 (some (.int v2), h2) ∧ x_JI h2 ∧ (E → v1 = v2)
theorem x_hs {s : Int32} {has pl : Nat → Int32} {n : Nat} (hn : n < 2) (h : ∀ q, q < 256 → (has (256 * n + q) = 0 ↔ pl q = -1)) : x_is has (nI n) s ↔ (¬ s ≤ 0 ∧ ¬ 256 ≤ s ∧ ¬ pl s.toNatClampNeg = -1) := by
  have e0 : s < 1 ↔ s ≤ 0 := by
    rw [Int32.lt_iff_toInt_lt, Int32.le_iff_toInt_le, show (1 : Int32).toInt = 1 from rfl, show (0 : Int32).toInt = 0 from rfl]
    omega
  have e1 : 255 < s ↔ 256 ≤ s := by
    rw [Int32.lt_iff_toInt_lt, Int32.le_iff_toInt_le, show (255 : Int32).toInt = 255 from rfl, show (256 : Int32).toInt = 256 from rfl]
    omega
  have hc : nI n = 0 ∨ nI n = 1 := by
    have : n = 0 ∨ n = 1 := by omega
    rcases this with rfl | rfl
    · exact Or.inl rfl
    · exact Or.inr rfl
  unfold x_is
  rw [e0, e1, mm_cl (show n < 2 ^ 31 by omega)]
  constructor
  · rintro ⟨-, ⟨h1, h2⟩, h3⟩
    have hq : s.toNatClampNeg < 256 := by
      have e : s.toNatClampNeg = s.toInt.toNat := rfl
      rw [Int32.le_iff_toInt_le, show (256 : Int32).toInt = 256 from rfl] at h2
      omega
    exact ⟨h1, h2, fun z => h3 ((h _ hq).mpr z)⟩
  · rintro ⟨h1, h2, h3⟩
    have hq : s.toNatClampNeg < 256 := by
      have e : s.toNatClampNeg = s.toInt.toNat := rfl
      rw [Int32.le_iff_toInt_le, show (256 : Int32).toInt = 256 from rfl] at h2
      omega
    exact ⟨hc, ⟨h1, h2⟩, fun z => h3 ((h _ hq).mp z)⟩
theorem x_cl_lt {s : Int32} (h2 : ¬ 256 ≤ s) : s.toNatClampNeg < 256 := by
  have e : s.toNatClampNeg = s.toInt.toNat := rfl
  rw [Int32.le_iff_toInt_le, show (256 : Int32).toInt = 256 from rfl] at h2
  omega
theorem x_nI_of {s : Int32} (h1 : ¬ s ≤ 0) (h2 : ¬ 256 ≤ s) : ∃ q, 1 ≤ q ∧ q < 256 ∧ s = nI q := by
  rw [Int32.le_iff_toInt_le, show (256 : Int32).toInt = 256 from rfl] at h2
  rw [Int32.le_iff_toInt_le, show (0 : Int32).toInt = 0 from rfl] at h1
  exact ⟨s.toInt.toNat, by omega, by omega, Int32.toInt_inj.mp (by rw [nI_toInt (by omega)]; omega)⟩
/-- the reference's i-th set -/
theorem x_at_ok {pl ke has kp sz se : Nat → Int32} {n : Nat} (h : x_J1 pl ke has kp n) (hI : x_CI pl sz se) {a : Nat} (ha : a < 4) : ∀ (d q j : Nat), d + q = 256 → 1 ≤ q → j < 2 ^ 31 → (j + x_ct pl a (q - 1) < x_ct pl a 255 → x_at has n (nI a) d q (nI j) = se (a * 24 + (j + x_ct pl a (q - 1)))) ∧ (¬ j + x_ct pl a (q - 1) < x_ct pl a 255 → x_at has n (nI a) d q (nI j) = 0)
  | 0, q, j, hd, hq, hj => ⟨fun z => by
      rw [show q - 1 = 255 by omega] at z
      omega, fun _ => rfl⟩
  | d + 1, q, j, hd, hq, hj => by
    have hcd := h.cd (q := q) (by omega) (nI a)
    obtain ⟨p, rfl⟩ : ∃ p, q = p + 1 := ⟨q - 1, by omega⟩
    rw [Nat.add_sub_cancel]
    by_cases c : ¬ pl (p + 1) = -1 ∧ x_dm (nI (p + 1)) = nI a
    · have e1 : x_ct pl a (p + 1) = x_ct pl a p + 1 := if_pos c
      have e2 : x_at has n (nI a) (d + 1) (p + 1) (nI j) = if nI j = 0 then nI (p + 1) else x_at has n (nI a) d (p + 1 + 1) (nI j - 1) := if_pos (hcd.mpr c)
      rw [e2]
      have l1 : x_ct pl a p < x_ct pl a 255 := x_ct_lt (q := p + 1) (by omega) (by omega) c.1 c.2
      by_cases j0 : j = 0
      · subst j0
        refine ⟨fun z => ?_, fun z => absurd (by omega) z⟩
        rw [if_pos (show nI 0 = 0 from rfl), Nat.zero_add]
        obtain ⟨k', h6, h7, h8, h9⟩ := hI.2.1 (p + 1) hq (by omega) c.1
        have e : k' = a := (nI_eq (by omega) (by omega)).mp (h7.symm.trans c.2)
        rw [e, Nat.add_sub_cancel] at h9
        exact h9.symm
      · obtain ⟨j', rfl⟩ : ∃ j', j = j' + 1 := ⟨j - 1, by omega⟩
        rw [if_neg (nI_ne0 (by omega) hj), show nI (j' + 1) - 1 = nI j' by rw [← nI_1, Int32.add_sub_cancel]]
        have z := x_at_ok h hI ha d (p + 1 + 1) j' (by omega) (by omega) (by omega)
        rw [show p + 1 + 1 - 1 = p + 1 by omega, e1, show j' + (x_ct pl a p + 1) = j' + 1 + x_ct pl a p by omega] at z
        exact z
    · have e1 : x_ct pl a (p + 1) = x_ct pl a p := if_neg c
      have e2 : x_at has n (nI a) (d + 1) (p + 1) (nI j) = x_at has n (nI a) d (p + 1 + 1) (nI j) := if_neg (fun q => c (hcd.mp q))
      rw [e2]
      have z := x_at_ok h hI ha d (p + 1 + 1) j (by omega) (by omega) hj
      rw [show p + 1 + 1 - 1 = p + 1 by omega, e1] at z
      exact z
theorem x_at_lt {pl ke has kp sz se : Nat → Int32} {n : Nat} (h : x_J1 pl ke has kp n) (hI : x_CI pl sz se) {a j : Nat} (ha : a < 4) (hj : j < x_ct pl a 255) : x_at has n (nI a) 255 1 (nI j) = se (a * 24 + j) := by
  have l := hI.le ha
  have z := (x_at_ok h hI ha 255 1 j (by omega) (by omega) (by omega)).1
  rw [show x_ct pl a (1 - 1) = 0 from rfl, Nat.add_zero] at z
  exact z hj
theorem x_at_ge {pl ke has kp sz se : Nat → Int32} {n : Nat} (h : x_J1 pl ke has kp n) (hI : x_CI pl sz se) {a j : Nat} (ha : a < 4) (hj2 : j < 2 ^ 31) (hj : ¬ j < x_ct pl a 255) : x_at has n (nI a) 255 1 (nI j) = 0 := by
  have z := (x_at_ok h hI ha 255 1 j (by omega) (by omega) hj2).2
  rw [show x_ct pl a (1 - 1) = 0 from rfl, Nat.add_zero] at z
  exact z hj
theorem x_io_c {f g : Nat → Int32} (s : Int32) : ∀ t, (∀ v, v < t → f v = g v) → x_io f s t = x_io g s t
  | 0, _ => rfl
  | t + 1, h => by
    show (if _ then _ else _) = (if _ then _ else _)
    rw [x_io_c s t (fun v hv => h v (by omega)), h t (by omega)]
