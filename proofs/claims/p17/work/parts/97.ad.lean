/-! ADDING A SET: what is held afterwards -/
theorem x_ct_congr {a b : Nat → Int32} (k : Nat) : ∀ t, (∀ q, 1 ≤ q → q ≤ t → (a q = -1 ↔ b q = -1)) → x_ct a k t = x_ct b k t
  | 0, _ => rfl
  | t + 1, h => by
    have ih := x_ct_congr k t (fun q h1 h2 => h q h1 (by omega))
    have e := h (t + 1) (by omega) (Nat.le_refl _)
    by_cases c : ¬ a (t + 1) = -1 ∧ x_dm (nI (t + 1)) = nI k
    · rw [show x_ct a k (t + 1) = x_ct a k t + 1 from if_pos c, show x_ct b k (t + 1) = x_ct b k t + 1 from if_pos ⟨fun z => c.1 (e.mpr z), c.2⟩, ih]
    · rw [show x_ct a k (t + 1) = x_ct a k t from if_neg c, show x_ct b k (t + 1) = x_ct b k t from if_neg (fun z => c ⟨fun y => z.1 (e.mp y), z.2⟩), ih]
theorem x_nm1 {j : Nat} (h : j < 2 ^ 31) : ¬ nI j = -1 := fun q => nI_pos h (by rw [q]; decide)
abbrev x_hd (pp : Nat → Int32) : Prop := ∀ q, 1 ≤ q → q < 256 → ¬ pp q = -1 → ∃ k, k < 4 ∧ x_dm (nI q) = nI k
theorem x_hd_i {pp : Nat → Int32} (h : x_hd pp) : ∀ t, t < 255 → ¬ pp (t + 1) = -1 → 0 ≤ (x_dm (nI (t + 1))).toInt ∧ (x_dm (nI (t + 1))).toInt < 4 := fun t ht hp => by
  obtain ⟨k, hk, e⟩ := h (t + 1) (by omega) (by omega) hp
  rw [e, nI_toInt (by omega)]
  omega
theorem x_na_all {pp sz se : Nat → Int32} (hd : x_hd pp) (h0 : ∀ k, k < 4 → sz k = 0) (hc : ∀ k, k < 4 → x_ct pp k 255 ≤ 24) : ∀ t, t ≤ 255 → (∀ q k, 1 ≤ q → q ≤ t → ¬ pp q = -1 → k < 4 → x_dm (nI q) = nI k → (x_na pp sz se t).1 q = nI (x_ct pp k (q - 1)) ∧ (x_na pp sz se t).2.2 (k * 24 + x_ct pp k (q - 1)) = nI q) ∧ (∀ q, pp q = -1 → (x_na pp sz se t).1 q = -1) ∧ (x_na pp sz se t).1 0 = pp 0
  | 0, _ => ⟨fun q k h1 h2 => by omega, fun q h => h, rfl⟩
  | t + 1, ht => by
    obtain ⟨i1, i2, i3⟩ := x_na_all (se := se) hd h0 hc t (by omega)
    by_cases hp : pp (t + 1) = -1
    · rw [show x_na pp sz se (t + 1) = x_na pp sz se t from if_pos hp]
      refine ⟨fun q k h1 h2 h3 => ?_, i2, i3⟩
      by_cases e : q = t + 1
      · rw [e] at h3
        exact absurd hp h3
      · exact i1 q k h1 (by omega) h3
    · obtain ⟨j, hj, ej⟩ := hd (t + 1) (by omega) (by omega) hp
      have es := x_na_ct (se := se) (x_hd_i hd) h0 t (by omega) j hj
      have l1 : x_ct pp j t < x_ct pp j 255 := x_ct_lt (q := t + 1) (by omega) (by omega) hp ej
      have l2 := hc j hj
      have ei : (nI j * 24 + nI (x_ct pp j t)).toNatClampNeg = j * 24 + x_ct pp j t := by rw [show nI j * 24 + nI (x_ct pp j t) = nI (j * 24 + x_ct pp j t) by rw [show (24 : Int32) = nI 24 from rfl, pk_mul, nI_add], mm_cl (by omega)]
      rw [show x_na pp sz se (t + 1) = _ from if_neg hp]
      rw [ej, mm_cl (show j < 2 ^ 31 by omega), es, ei]
      refine ⟨fun q k h1 h2 h3 h4 h5 => ?_, fun q hq => ?_, ?_⟩
      · show upd _ (t + 1) _ q = _ ∧ upd _ (j * 24 + x_ct pp j t) _ (k * 24 + x_ct pp k (q - 1)) = _
        rw [x_ui, x_ui]
        by_cases e : q = t + 1
        · subst e
          have ek : k = j := (nI_eq (by omega) (by omega)).mp (h5.symm.trans ej)
          subst ek
          rw [if_pos rfl, Nat.add_sub_cancel, if_pos rfl]
          exact ⟨rfl, rfl⟩
        · have l3 : x_ct pp k (q - 1) < x_ct pp k t := x_ct_lt h1 (by omega) h3 h5
          have l4 : x_ct pp k (q - 1) < x_ct pp k 255 := x_ct_lt h1 (by omega) h3 h5
          have l5 := hc k h4
          rw [if_neg e, if_neg (fun z => by
            by_cases ek : k = j
            · subst ek
              omega
            · omega)]
          exact i1 q k h1 (by omega) h3 h4 h5
      · show upd _ (t + 1) _ q = _
        rw [x_ui, if_neg (fun e => hp (by rw [← e]; exact hq))]
        exact i2 q hq
      · show upd (x_na pp sz se t).1 (t + 1) (nI (x_ct pp j t)) 0 = pp 0
        rw [x_ui, if_neg (by omega)]
        exact i3
theorem x_nb_of4 {pp sz se : Nat → Int32} (hd : x_hd pp) (h0 : ∀ k, k < 4 → sz k = 0) (hc : ∀ k, k < 4 → x_ct pp k 255 ≤ 24) : x_nb pp sz se := by
  intro t ht hp
  obtain ⟨j, hj, ej⟩ := hd (t + 1) (by omega) (by omega) hp
  have z := x_hd_i hd t ht hp
  refine ⟨z, ?_⟩
  have l1 : x_ct pp j t < x_ct pp j 255 := x_ct_lt (q := t + 1) (by omega) (by omega) hp ej
  have z2 := hc j hj
  rw [ej, mm_cl (by omega), x_na_ct (x_hd_i hd) h0 t (by omega) j hj]
  rw [show nI j * 24 + nI (x_ct pp j t) = nI (j * 24 + x_ct pp j t) by rw [show (24 : Int32) = nI 24 from rfl, pk_mul, nI_add], nI_toInt (by omega)]
  omega
theorem x_ct_pp {pl ke has kp : Nat → Int32} {n s : Nat} (hJ : x_J1 pl ke has kp n) (hF : x_FL s) (k : Nat) : ∀ t, t ≤ 255 → x_ct (x_pp s pl (x_N s)) k t = x_ct pl k t + x_an has n s (nI k) t
  | 0, _ => rfl
  | t + 1, ht => by
    have ih := x_ct_pp hJ hF k t (by omega)
    have ep := hF.pp pl (t + 1)
    have z := hJ.1 (t + 1) (by omega)
    have zd := x_dm_sz (q := t + 1) (by omega) (nI k)
    by_cases hp : pl (t + 1) = -1
    · have e1 : x_ct pl k (t + 1) = x_ct pl k t := if_neg (fun q => q.1 hp)
      rw [e1]
      by_cases c : x_A s (t + 1) ∧ x_dm (nI (t + 1)) = nI k
      · rw [if_pos (x_fl_mem.mpr ⟨by omega, by omega, c.1⟩)] at ep
        rw [show x_an has n s (nI k) (t + 1) = x_an has n s (nI k) t + 1 from if_pos ⟨c.1, zd.mp c.2, z.mpr hp⟩, show x_ct (x_pp s pl (x_N s)) k (t + 1) = x_ct (x_pp s pl (x_N s)) k t + 1 from if_pos ⟨by rw [ep]; decide, c.2⟩, ih]
        omega
      · rw [show x_an has n s (nI k) (t + 1) = x_an has n s (nI k) t from if_neg (fun q => c ⟨q.1, zd.mpr q.2.1⟩), show x_ct (x_pp s pl (x_N s)) k (t + 1) = x_ct (x_pp s pl (x_N s)) k t from if_neg (fun q => c ⟨?_, q.2⟩), ih]
        by_cases m : t + 1 ∈ x_fl s
        · exact (x_fl_mem.mp m).2.2
        · rw [if_neg m] at ep
          exact absurd (ep.trans hp) q.1
    · have hpp : ¬ x_pp s pl (x_N s) (t + 1) = -1 := by
        rw [ep]
        split
        · decide
        · exact hp
      have e2 : x_an has n s (nI k) (t + 1) = x_an has n s (nI k) t := if_neg (fun q => hp (z.mp q.2.2))
      rw [e2]
      by_cases c : x_dm (nI (t + 1)) = nI k
      · rw [show x_ct pl k (t + 1) = x_ct pl k t + 1 from if_pos ⟨hp, c⟩, show x_ct (x_pp s pl (x_N s)) k (t + 1) = x_ct (x_pp s pl (x_N s)) k t + 1 from if_pos ⟨hpp, c⟩, ih]
        omega
      · rw [show x_ct pl k (t + 1) = x_ct pl k t from if_neg (fun q => c q.2), show x_ct (x_pp s pl (x_N s)) k (t + 1) = x_ct (x_pp s pl (x_N s)) k t from if_neg (fun q => c q.2), ih]
theorem x_hd_pp {pl sz se : Nat → Int32} {s : Nat} (hI : x_CI pl sz se) (hF : x_FL s) : x_hd (x_pp s pl (x_N s)) := fun q h1 h2 h3 => by
  rw [hF.pp] at h3
  by_cases m : q ∈ x_fl s
  · exact hF.dm q m
  · rw [if_neg m] at h3
    obtain ⟨k, hk, e, -⟩ := hI.2.1 q h1 h2 h3
    exact ⟨k, hk, e⟩
abbrev x_NA (pl sz se : Nat → Int32) (s : Nat) : (Nat → Int32) × (Nat → Int32) × (Nat → Int32) := x_na (x_pp s pl (x_N s)) (x_fill sz 0 4) se 255
theorem x_add_c24 {pl ke has kp : Nat → Int32} {n s : Nat} (hJ : x_J1 pl ke has kp n) (hF : x_FL s) (hs : s < 256) (h24 : ∀ k, k < 4 → x_ct pl k 255 + x_nf pl s k ≤ 24) : ∀ k, k < 4 → x_ct (x_pp s pl (x_N s)) k 255 ≤ 24 := fun k hk => by
  have e := hF.an_hi hs has n (nI k) (255 - s) (by omega)
  rw [show s + (255 - s) = 255 by omega] at e
  rw [x_ct_pp hJ hF k 255 (Nat.le_refl _), e, hF.an hs hJ k]
  exact h24 k hk
theorem x_na_m1 {pl sz se ke has kp : Nat → Int32} {n s : Nat} (hI : x_CI pl sz se) (hJ : x_J1 pl ke has kp n) (hF : x_FL s) (hs : s < 256) (h24 : ∀ k, k < 4 → x_ct pl k 255 + x_nf pl s k ≤ 24) {q : Nat} (hq : q < 256) : (x_NA pl sz se s).1 q = -1 ↔ x_pp s pl (x_N s) q = -1 := by
  obtain ⟨a1, a2, a3⟩ := x_na_all (se := se) (x_hd_pp hI hF) (fun k hk => x_fi sz 0 4 hk) (x_add_c24 hJ hF hs h24) 255 (Nat.le_refl _)
  refine ⟨fun h => Classical.byContradiction (fun hp => ?_), a2 q⟩
  by_cases q0 : q = 0
  · rw [q0] at h hp
    exact hp (a3.symm.trans h)
  · obtain ⟨k, hk, e⟩ := x_hd_pp hI hF q (by omega) hq hp
    have l1 : x_ct (x_pp s pl (x_N s)) k (q - 1) < x_ct (x_pp s pl (x_N s)) k 255 := x_ct_lt (by omega) (by omega) hp e
    have l2 := x_add_c24 hJ hF hs h24 k hk
    exact x_nm1 (by omega) ((a1 q k (by omega) (by omega) hp hk e).1.symm.trans h)
theorem x_CI_add {pl sz se ke has kp : Nat → Int32} {n s : Nat} (hI : x_CI pl sz se) (hJ : x_J1 pl ke has kp n) (hF : x_FL s) (hs : s < 256) (h24 : ∀ k, k < 4 → x_ct pl k 255 + x_nf pl s k ≤ 24) : x_CI (x_NA pl sz se s).1 (x_NA pl sz se s).2.1 (x_NA pl sz se s).2.2 := by
  have hd := x_hd_pp hI hF
  have h0 : ∀ k, k < 4 → x_fill sz 0 4 k = 0 := fun k hk => x_fi sz 0 4 hk
  have hc := x_add_c24 hJ hF hs h24
  obtain ⟨a1, a2, a3⟩ := x_na_all (se := se) hd h0 hc 255 (Nat.le_refl _)
  have hm : ∀ q, q < 256 → ((x_NA pl sz se s).1 q = -1 ↔ x_pp s pl (x_N s) q = -1) := fun q hq => x_na_m1 hI hJ hF hs h24 hq
  have ect : ∀ k t, t ≤ 255 → x_ct (x_NA pl sz se s).1 k t = x_ct (x_pp s pl (x_N s)) k t := fun k t ht => x_ct_congr k t (fun q h1 h2 => hm q (by omega))
  refine ⟨fun k hk => ?_, fun q h1 h2 h3 => ?_, fun q p h1 h2 h3 h4 h5 h6 => ?_, ?_⟩
  · rw [ect k 255 (Nat.le_refl _)]
    exact ⟨x_na_ct (x_hd_i hd) h0 255 (Nat.le_refl _) k hk, hc k hk⟩
  · have hp : ¬ x_pp s pl (x_N s) q = -1 := fun z => h3 ((hm q h2).mpr z)
    obtain ⟨k, hk, e⟩ := hd q h1 h2 hp
    obtain ⟨b1, b2⟩ := a1 q k h1 (by omega) hp hk e
    refine ⟨k, hk, e, ?_, ?_⟩
    · rw [ect k (q - 1) (by omega)]
      exact b1
    · rw [ect k (q - 1) (by omega)]
      exact b2
  · refine fun z => ?_
    have hz := (hm p h5).mp z
    have hp : ¬ x_pp s pl (x_N s) q = -1 := fun y => h3 ((hm q h2).mpr y)
    rw [hF.pp] at hz hp
    by_cases m : q ∈ x_fl s
    · rw [if_pos (x_fl_mem.mpr ⟨h5, h4, x_A_tr (x_fl_mem.mp m).2.2 h6⟩)] at hz
      exact absurd hz (by decide)
    · rw [if_neg m] at hp
      have h7 := hI.2.2.1 q p h1 h2 hp h4 h5 h6
      by_cases mp : p ∈ x_fl s
      · rw [if_pos mp] at hz
        exact absurd hz (by decide)
      · rw [if_neg mp] at hz
        exact h7 hz
  · show (x_NA pl sz se s).1 0 = -1
    rw [a3, hF.pp, if_neg (fun m => by have := (x_fl_mem.mp m).2.1; omega)]
    exact hI.2.2.2
theorem x_J1.add {pl sz se ke has kp : Nat → Int32} {n s : Nat} (hI : x_CI pl sz se) (hJ : x_J1 pl ke has kp n) (hF : x_FL s) (hs : s < 256) (h24 : ∀ k, k < 4 → x_ct pl k 255 + x_nf pl s k ≤ 24) : x_J1 (x_NA pl sz se s).1 ke (x_su has has s (256 * n) 1 s) (x_su kp has s (256 * n) 0 s) n := by
  have hm : ∀ q, q < 256 → ((x_NA pl sz se s).1 q = -1 ↔ x_pp s pl (x_N s) q = -1) := fun q hq => x_na_m1 hI hJ hF hs h24 hq
  have ec : ∀ q, q < 256 → ((256 * n < 256 * n + q ∧ 256 * n + q ≤ 256 * n + s ∧ x_A s (256 * n + q - 256 * n) ∧ has (256 * n + q) = 0) ↔ (q ∈ x_fl s ∧ pl q = -1)) := fun q hq => by
    rw [show 256 * n + q - 256 * n = q by omega, hJ.1 q hq, x_fl_mem]
    constructor
    · rintro ⟨b1, b2, b3, b4⟩
      exact ⟨⟨hq, by omega, b3⟩, b4⟩
    · rintro ⟨⟨b1, b2, b3⟩, b4⟩
      have := hF.le q (x_fl_mem.mpr ⟨b1, b2, b3⟩)
      exact ⟨by omega, by omega, b3, b4⟩
  refine ⟨fun q hq => ?_, fun q hq => ?_, fun q hq h => ?_, hJ.2.2.2⟩
  · rw [hm q hq, hF.pp]
    unfold x_su
    by_cases c : q ∈ x_fl s
    · rw [if_pos c]
      by_cases d : pl q = -1
      · rw [if_pos ((ec q hq).mpr ⟨c, d⟩)]
        exact ⟨fun z => absurd z (by decide), fun z => absurd z (by decide)⟩
      · rw [if_neg (fun z => d ((ec q hq).mp z).2)]
        exact ⟨fun z => absurd ((hJ.1 q hq).mp z) d, fun z => absurd z (by decide)⟩
    · rw [if_neg c, if_neg (fun z => c ((ec q hq).mp z).1)]
      exact hJ.1 q hq
  · unfold x_su
    by_cases c : q ∈ x_fl s ∧ pl q = -1
    · rw [if_pos ((ec q hq).mpr c)]
      exact (hJ.2.2.1 q hq c.2).symm
    · rw [if_neg (fun z => c ((ec q hq).mp z))]
      exact hJ.2.1 q hq
  · have h2 := (hm q hq).mp h
    rw [hF.pp] at h2
    by_cases c : q ∈ x_fl s
    · rw [if_pos c] at h2
      exact absurd h2 (by decide)
    · rw [if_neg c] at h2
      exact hJ.2.2.1 q hq h2
theorem x_J1.ado {pl ke has kp : Nat → Int32} {n m s : Nat} (hJ : x_J1 pl ke has kp n) (hm : m ≠ n) (hs : s < 256) : x_J1 pl ke (x_su has has s (256 * m) 1 s) (x_su kp has s (256 * m) 0 s) n := by
  refine ⟨fun q hq => ?_, fun q hq => ?_, hJ.2.2.1, hJ.2.2.2⟩
  · unfold x_su
    rw [if_neg (by omega)]
    exact hJ.1 q hq
  · unfold x_su
    rw [if_neg (by omega)]
    exact hJ.2.1 q hq
theorem x_le24b {a b : Nat} (ha : a ≤ 24) (hb : b ≤ 256) : nI a + (0 + nI b) ≤ 24 ↔ a + b ≤ 24 := by
  rw [Int32.zero_add, nI_add]
  exact nI_leI (b := 24) (by omega) (by decide)
theorem x_l10 {s : Int32} : s < 1 ↔ s ≤ 0 := by
  rw [Int32.lt_iff_toInt_lt, Int32.le_iff_toInt_le, show (1 : Int32).toInt = 1 from rfl, show (0 : Int32).toInt = 0 from rfl]
  omega
theorem x_l256 {s : Int32} : 255 < s ↔ 256 ≤ s := by
  rw [Int32.lt_iff_toInt_lt, Int32.le_iff_toInt_le, show (255 : Int32).toInt = 255 from rfl, show (256 : Int32).toInt = 256 from rfl]
  omega
theorem x_bs {s : Int32} (h1 : ¬ s < 1) (h2 : ¬ 255 < s) (h4 : x_sz8 s 8 ≤ 4) : x_bc s ≤ 4 := by
  obtain ⟨q, q1, q2, rfl⟩ := x_nI_of (fun z => h1 (x_l10.mpr z)) (fun z => h2 (x_l256.mpr z))
  rw [x_bcz q q2]
  exact h4
theorem j_add {h : mm_H} (hJ : x_JI h) (c s : Int32) : x_2 34 72 [.int c, .int s] h True := by
  obtain ⟨pl0, ke0, sz0, se0, gr0, pl1, ke1, sz1, se1, gr1, im, ce, wo, pv, fa, pm, pw, fr, ba, rw, ro, co, mo, mi, ki, has, ke, f, ma, wq, dv, cy, sp, e1, e2, e3, rn, cn, di, tr, hI0, hI1, hf, him, hJ0, hJ1, rfl⟩ := hJ
  by_cases c0 : c = 0
  · subst c0
    by_cases hb : ¬ s < 1 ∧ ¬ 256 ≤ s ∧ x_bc s ≤ 4
    · obtain ⟨q, q1, q2, rfl⟩ := x_nI_of (fun z => hb.1 (x_l10.mpr z)) hb.2.1
      have h4 : x_sz8 (nI q) 8 ≤ 4 := by rw [← x_bcz q q2]; exact hb.2.2
      have hF := x_FL_ok q2 h4
      have ev : ∀ k, k < 4 → (sz0 k + (x_gn q pl0 (x_fill gr0 0 4) (x_N q)) k ≤ 24 ↔ x_ct pl0 k 255 + x_nf pl0 q k ≤ 24) := fun k hk => by
        rw [hF.gn pl0 _ k hk, x_fi gr0 0 4 hk, hI0.sz hk]
        exact x_le24b (hI0.le hk) (x_nf_le _ _ _)
      have er : ∀ k, k < 4 → (x_ro has 0 q k ↔ x_ct pl0 k 255 + x_nf pl0 q k ≤ 24) := fun k hk => by
        unfold x_ro
        rw [hJ0.mn k 255 (Nat.le_refl _), hF.an q2 hJ0 k]
      by_cases h24 : ∀ k, k < 4 → x_ct pl0 k 255 + x_nf pl0 q k ≤ 24
      · refine ⟨_, _, _, _, x_e1 (v_addC0 q1 q2 hb.2.2 (v_inc0 q1 q2 hF.okA (fun k hk => (ev k hk).mpr (h24 k hk)) (x_nb_of4 (x_hd_pp hI0 hF) (fun k hk => x_fi sz0 0 4 hk) (x_add_c24 hJ0 hF q2 h24)))) rfl, g_add (n := 0) rfl rfl rfl (by decide) q1 q2 h4 (fun k hk => (er k hk).mpr (h24 k hk)), (x_JI_i (x_CI_add hI0 hJ0 hF q2 h24) hI1 hf him (x_J1.add hI0 hJ0 hF q2 h24) (hJ1.ado (m := 0) (by decide) q2)), fun _ => ?_⟩
        rw [hF.sm pl0 _ (fun k hk => x_fi gr0 0 4 hk), hF.mw q2 hJ0]
      · exact ⟨_, _, _, _, x_e1 (v_addC0 q1 q2 hb.2.2 (v_incF0 q1 q2 hF.okA (fun z => h24 (fun k hk => (ev k hk).mp (z k hk))))) rfl, g_addF (n := 0) rfl rfl (by decide) q1 q2 h4 (fun z => h24 (fun k hk => (er k hk).mp (z k hk))), (x_JI_i hI0 hI1 hf him hJ0 hJ1), fun _ => rfl⟩
    · exact ⟨_, _, _, _, x_e1 (v_addB0 hb) rfl, y_addB (fun z => hb ⟨z.2.1, fun y => z.2.2.1 (x_l256.mpr y), x_bs z.2.1 z.2.2.1 z.2.2.2⟩), (x_JI_i hI0 hI1 hf him hJ0 hJ1), fun _ => rfl⟩
  · by_cases c1 : c = 1
    · subst c1
      by_cases hb : ¬ s < 1 ∧ ¬ 256 ≤ s ∧ x_bc s ≤ 4
      · obtain ⟨q, q1, q2, rfl⟩ := x_nI_of (fun z => hb.1 (x_l10.mpr z)) hb.2.1
        have h4 : x_sz8 (nI q) 8 ≤ 4 := by rw [← x_bcz q q2]; exact hb.2.2
        have hF := x_FL_ok q2 h4
        have ev : ∀ k, k < 4 → (sz1 k + (x_gn q pl1 (x_fill gr1 0 4) (x_N q)) k ≤ 24 ↔ x_ct pl1 k 255 + x_nf pl1 q k ≤ 24) := fun k hk => by
          rw [hF.gn pl1 _ k hk, x_fi gr1 0 4 hk, hI1.sz hk]
          exact x_le24b (hI1.le hk) (x_nf_le _ _ _)
        have er : ∀ k, k < 4 → (x_ro has 1 q k ↔ x_ct pl1 k 255 + x_nf pl1 q k ≤ 24) := fun k hk => by
          unfold x_ro
          rw [hJ1.mn k 255 (Nat.le_refl _), hF.an q2 hJ1 k]
        by_cases h24 : ∀ k, k < 4 → x_ct pl1 k 255 + x_nf pl1 q k ≤ 24
        · refine ⟨_, _, _, _, x_e1 (v_addC1 q1 q2 hb.2.2 (v_inc1 q1 q2 hF.okA (fun k hk => (ev k hk).mpr (h24 k hk)) (x_nb_of4 (x_hd_pp hI1 hF) (fun k hk => x_fi sz1 0 4 hk) (x_add_c24 hJ1 hF q2 h24)))) rfl, g_add (n := 1) rfl rfl rfl (by decide) q1 q2 h4 (fun k hk => (er k hk).mpr (h24 k hk)), (x_JI_i hI0 (x_CI_add hI1 hJ1 hF q2 h24) hf him (hJ0.ado (m := 1) (by decide) q2) (x_J1.add hI1 hJ1 hF q2 h24)), fun _ => ?_⟩
          rw [hF.sm pl1 _ (fun k hk => x_fi gr1 0 4 hk), hF.mw q2 hJ1]
        · exact ⟨_, _, _, _, x_e1 (v_addC1 q1 q2 hb.2.2 (v_incF1 q1 q2 hF.okA (fun z => h24 (fun k hk => (ev k hk).mp (z k hk))))) rfl, g_addF (n := 1) rfl rfl (by decide) q1 q2 h4 (fun z => h24 (fun k hk => (er k hk).mp (z k hk))), (x_JI_i hI0 hI1 hf him hJ0 hJ1), fun _ => rfl⟩
      · exact ⟨_, _, _, _, x_e1 (v_addB1 hb) rfl, y_addB (fun z => hb ⟨z.2.1, fun y => z.2.2.1 (x_l256.mpr y), x_bs z.2.1 z.2.2.1 z.2.2.2⟩), (x_JI_i hI0 hI1 hf him hJ0 hJ1), fun _ => rfl⟩
    · have hc : ¬ (c = 0 ∨ c = 1) := fun q => q.elim c0 c1
      exact ⟨_, _, _, _, x_e1 (v_addN hc s) rfl, y_addB (fun z => hc z.1), (x_JI_i hI0 hI1 hf him hJ0 hJ1), fun _ => rfl⟩
