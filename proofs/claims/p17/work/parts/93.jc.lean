/-! CALLS ON BOTH SIDES: boundary, put, clear, map, simplicial -/
theorem v_ba40 {pl0 ke0 sz0 se0 gr0 pl1 ke1 sz1 se1 gr1 im ce wo pv fa pm pw fr ba : Nat → Int32} {rw : Nat → Int64} {ro co mo : Int32} {mi : Int64} {ki : Int32} {M : mm_H} (hI : x_CI pl0 sz0 se0) {s : Int32} (hd : x_dm s + 1 = nI 4) : mm_EC kM 12 [.ref 1, .int s] (kC pl0 ke0 sz0 se0 gr0 pl1 ke1 sz1 se1 gr1 im ce wo pv fa pm pw fr ba rw ro co mo mi ki M) (some (.int 0), (kC pl0 ke0 sz0 se0 gr0 pl1 ke1 sz1 se1 gr1 im ce wo pv fa pm pw fr ba rw ro co mo mi ki M)) := by
  have em : x_m pl0 (x_dm s + 1) = 0 := by
    rw [hd]
    exact if_neg (fun q => q.2 (by decide))
  refine ⟨kq_12, rfl, rfl, ?_⟩
  refine mm_E.s rfl rfl rfl (fun _ => rfl) ?_
  refine mm_E.ic rfl rfl rfl rfl rfl (z_dm _) ?_
  refine mm_E.s rfl rfl rfl (fun _ => rfl) ?_
  refine mm_E.s rfl rfl rfl (fun _ => rfl) ?_
  refine mm_E.s rfl rfl rfl (fun _ => rfl) ?_
  refine mm_E.s rfl rfl rfl (fun _ => rfl) ?_
  refine mm_E.s rfl rfl rfl (fun _ => rfl) ?_
  refine mm_E.s rfl rfl rfl (fun _ => rfl) ?_
  refine mm_E.s rfl rfl rfl (fun _ => rfl) ?_
  refine mm_E.s rfl rfl rfl (fun _ => rfl) ?_
  refine mm_E.s rfl rfl rfl (fun _ => rfl) ?_
  refine mm_E.s rfl rfl rfl (fun _ => rfl) ?_
  refine mm_E.iv rfl rfl rfl rfl rfl rfl (v_sz0 hI _) ?_
  refine mm_E.ti _ (show nI (x_m pl0 (x_dm s + 1)) = 0 by rw [em]; rfl) ?_
  refine mm_E.s rfl rfl rfl (fun _ => rfl) ?_
  refine mm_E.s rfl rfl rfl (fun _ => rfl) ?_
  exact mm_E.ret rfl rfl rfl
theorem v_bd40 {pl0 ke0 sz0 se0 gr0 pl1 ke1 sz1 se1 gr1 im ce wo pv fa pm pw fr ba : Nat → Int32} {rw : Nat → Int64} {ro co mo : Int32} {mi : Int64} {ki : Int32} {M : mm_H} (hI : x_CI pl0 sz0 se0) {s : Int32} (hh : ¬ s ≤ 0 ∧ ¬ 256 ≤ s ∧ ¬ pl0 s.toNatClampNeg = -1) (hd : x_dm s + 1 = nI 4) : mm_EC kM 45 [.ref 0, .int 0, .int s] (kC pl0 ke0 sz0 se0 gr0 pl1 ke1 sz1 se1 gr1 im ce wo pv fa pm pw fr ba rw ro co mo mi ki M) (some (.int 0), (kC pl0 ke0 sz0 se0 gr0 pl1 ke1 sz1 se1 gr1 im ce wo pv fa pm pw fr ba rw ro co mo mi ki M)) := by
  refine ⟨kq_45, rfl, rfl, ?_⟩
  refine mm_E.s rfl rfl rfl (fun _ => rfl) ?_
  refine mm_E.s rfl rfl rfl (fun _ => rfl) ?_
  refine mm_E.iv rfl rfl rfl rfl rfl rfl v_cx0 ?_
  refine mm_E.s rfl rfl rfl (fun _ => rfl) ?_
  refine mm_E.s rfl rfl rfl (fun _ => rfl) ?_
  refine mm_E.s rfl rfl rfl (fun _ => rfl) ?_
  refine mm_E.s rfl rfl rfl (fun _ => rfl) ?_
  refine mm_E.s rfl rfl rfl (fun _ => rfl) ?_
  refine mm_E.iv rfl rfl rfl rfl rfl rfl (v_holds0 s) ?_
  refine mm_E.ti _ (if_pos hh) ?_
  refine mm_E.s rfl rfl rfl (fun _ => rfl) ?_
  refine mm_E.s rfl rfl rfl (fun _ => rfl) ?_
  refine mm_E.s rfl rfl rfl (fun _ => rfl) ?_
  refine mm_E.iv rfl rfl rfl rfl rfl rfl (v_ba40 hI hd) ?_
  exact mm_E.ret rfl rfl rfl
theorem v_ba41 {pl0 ke0 sz0 se0 gr0 pl1 ke1 sz1 se1 gr1 im ce wo pv fa pm pw fr ba : Nat → Int32} {rw : Nat → Int64} {ro co mo : Int32} {mi : Int64} {ki : Int32} {M : mm_H} (hI : x_CI pl1 sz1 se1) {s : Int32} (hd : x_dm s + 1 = nI 4) : mm_EC kM 12 [.ref 7, .int s] (kC pl0 ke0 sz0 se0 gr0 pl1 ke1 sz1 se1 gr1 im ce wo pv fa pm pw fr ba rw ro co mo mi ki M) (some (.int 0), (kC pl0 ke0 sz0 se0 gr0 pl1 ke1 sz1 se1 gr1 im ce wo pv fa pm pw fr ba rw ro co mo mi ki M)) := by
  have em : x_m pl1 (x_dm s + 1) = 0 := by
    rw [hd]
    exact if_neg (fun q => q.2 (by decide))
  refine ⟨kq_12, rfl, rfl, ?_⟩
  refine mm_E.s rfl rfl rfl (fun _ => rfl) ?_
  refine mm_E.ic rfl rfl rfl rfl rfl (z_dm _) ?_
  refine mm_E.s rfl rfl rfl (fun _ => rfl) ?_
  refine mm_E.s rfl rfl rfl (fun _ => rfl) ?_
  refine mm_E.s rfl rfl rfl (fun _ => rfl) ?_
  refine mm_E.s rfl rfl rfl (fun _ => rfl) ?_
  refine mm_E.s rfl rfl rfl (fun _ => rfl) ?_
  refine mm_E.s rfl rfl rfl (fun _ => rfl) ?_
  refine mm_E.s rfl rfl rfl (fun _ => rfl) ?_
  refine mm_E.s rfl rfl rfl (fun _ => rfl) ?_
  refine mm_E.s rfl rfl rfl (fun _ => rfl) ?_
  refine mm_E.s rfl rfl rfl (fun _ => rfl) ?_
  refine mm_E.iv rfl rfl rfl rfl rfl rfl (v_sz1 hI _) ?_
  refine mm_E.ti _ (show nI (x_m pl1 (x_dm s + 1)) = 0 by rw [em]; rfl) ?_
  refine mm_E.s rfl rfl rfl (fun _ => rfl) ?_
  refine mm_E.s rfl rfl rfl (fun _ => rfl) ?_
  exact mm_E.ret rfl rfl rfl
theorem v_bd41 {pl0 ke0 sz0 se0 gr0 pl1 ke1 sz1 se1 gr1 im ce wo pv fa pm pw fr ba : Nat → Int32} {rw : Nat → Int64} {ro co mo : Int32} {mi : Int64} {ki : Int32} {M : mm_H} (hI : x_CI pl1 sz1 se1) {s : Int32} (hh : ¬ s ≤ 0 ∧ ¬ 256 ≤ s ∧ ¬ pl1 s.toNatClampNeg = -1) (hd : x_dm s + 1 = nI 4) : mm_EC kM 45 [.ref 0, .int 1, .int s] (kC pl0 ke0 sz0 se0 gr0 pl1 ke1 sz1 se1 gr1 im ce wo pv fa pm pw fr ba rw ro co mo mi ki M) (some (.int 0), (kC pl0 ke0 sz0 se0 gr0 pl1 ke1 sz1 se1 gr1 im ce wo pv fa pm pw fr ba rw ro co mo mi ki M)) := by
  refine ⟨kq_45, rfl, rfl, ?_⟩
  refine mm_E.s rfl rfl rfl (fun _ => rfl) ?_
  refine mm_E.s rfl rfl rfl (fun _ => rfl) ?_
  refine mm_E.iv rfl rfl rfl rfl rfl rfl v_cx1 ?_
  refine mm_E.s rfl rfl rfl (fun _ => rfl) ?_
  refine mm_E.s rfl rfl rfl (fun _ => rfl) ?_
  refine mm_E.s rfl rfl rfl (fun _ => rfl) ?_
  refine mm_E.s rfl rfl rfl (fun _ => rfl) ?_
  refine mm_E.s rfl rfl rfl (fun _ => rfl) ?_
  refine mm_E.iv rfl rfl rfl rfl rfl rfl (v_holds1 s) ?_
  refine mm_E.ti _ (if_pos hh) ?_
  refine mm_E.s rfl rfl rfl (fun _ => rfl) ?_
  refine mm_E.s rfl rfl rfl (fun _ => rfl) ?_
  refine mm_E.s rfl rfl rfl (fun _ => rfl) ?_
  refine mm_E.iv rfl rfl rfl rfl rfl rfl (v_ba41 hI hd) ?_
  exact mm_E.ret rfl rfl rfl
theorem x_dm1 {pl sz se : Nat → Int32} (hI : x_CI pl sz se) {q : Nat} (h1 : 1 ≤ q) (hq : q < 256) (hp : ¬ pl q = -1) : ∃ a, 1 ≤ a ∧ a ≤ 4 ∧ x_dm (nI q) + 1 = nI a := by
  obtain ⟨k, hk, e, -⟩ := hI.2.1 q h1 hq hp
  exact ⟨k + 1, by omega, by omega, by rw [e, nI_1]⟩
theorem j_boundary {h : mm_H} (hJ : x_JI h) (c s : Int32) : x_2 45 98 [.int c, .int s] h True := by
  obtain ⟨pl0, ke0, sz0, se0, gr0, pl1, ke1, sz1, se1, gr1, im, ce, wo, pv, fa, pm, pw, fr, ba, rw, ro, co, mo, mi, ki, has, ke, f, ma, wq, dv, cy, sp, e1, e2, e3, rn, cn, di, tr, hI0, hI1, hf, him, hJ0, hJ1, rfl⟩ := hJ
  by_cases c0 : c = 0
  · subst c0
    have e := x_hs (s := s) (n := 0) (by decide) hJ0.1
    by_cases hh : ¬ s ≤ 0 ∧ ¬ 256 ≤ s ∧ ¬ pl0 s.toNatClampNeg = -1
    · obtain ⟨q, h1, h2, rfl⟩ := x_nI_of hh.1 hh.2.1
      have hp : ¬ pl0 q = -1 := by
        have := hh.2.2
        rwa [mm_cl (by omega)] at this
      obtain ⟨a, ha1, ha, hd⟩ := x_dm1 hI0 h1 h2 hp
      by_cases a4 : a = 4
      · subst a4
        refine ⟨_, _, _, _, x_e1 (v_bd40 hI0 hh hd) rfl, g_bd rfl rfl rfl 0 (nI q), (x_JI_i hI0 hI1 hf him hJ0 hJ1), fun _ => ?_⟩
        exact ((if_pos (e.mpr hh)).trans (x_v_bd4 (n := 0) hJ0 hI0 h1 h2 hd 255 (Nat.le_refl _))).symm
      · refine ⟨_, _, _, _, x_e1 (v_bd10 hh hd (by omega) (x_sok0 hI0 (a := a) (by omega))) rfl, g_bd rfl rfl rfl 0 (nI q), (x_JI_i hI0 hI1 hf him hJ0 hJ1), fun _ => ?_⟩
        exact ((if_pos (e.mpr hh)).trans (x_v_bd (n := 0) hJ0 hI0 h1 h2 (by omega) hd 255 (Nat.le_refl _))).symm
    · exact ⟨_, _, _, _, x_e1 (v_bd00 hh) rfl, g_bd rfl rfl rfl 0 s, (x_JI_i hI0 hI1 hf him hJ0 hJ1), fun _ => (if_neg (fun q => hh (e.mp q))).symm⟩
  · by_cases c1 : c = 1
    · subst c1
      have e := x_hs (s := s) (n := 1) (by decide) hJ1.1
      by_cases hh : ¬ s ≤ 0 ∧ ¬ 256 ≤ s ∧ ¬ pl1 s.toNatClampNeg = -1
      · obtain ⟨q, h1, h2, rfl⟩ := x_nI_of hh.1 hh.2.1
        have hp : ¬ pl1 q = -1 := by
          have := hh.2.2
          rwa [mm_cl (by omega)] at this
        obtain ⟨a, ha1, ha, hd⟩ := x_dm1 hI1 h1 h2 hp
        by_cases a4 : a = 4
        · subst a4
          refine ⟨_, _, _, _, x_e1 (v_bd41 hI1 hh hd) rfl, g_bd rfl rfl rfl 1 (nI q), (x_JI_i hI0 hI1 hf him hJ0 hJ1), fun _ => ?_⟩
          exact ((if_pos (e.mpr hh)).trans (x_v_bd4 (n := 1) hJ1 hI1 h1 h2 hd 255 (Nat.le_refl _))).symm
        · refine ⟨_, _, _, _, x_e1 (v_bd11 hh hd (by omega) (x_sok1 hI1 (a := a) (by omega))) rfl, g_bd rfl rfl rfl 1 (nI q), (x_JI_i hI0 hI1 hf him hJ0 hJ1), fun _ => ?_⟩
          exact ((if_pos (e.mpr hh)).trans (x_v_bd (n := 1) hJ1 hI1 h1 h2 (by omega) hd 255 (Nat.le_refl _))).symm
      · exact ⟨_, _, _, _, x_e1 (v_bd01 hh) rfl, g_bd rfl rfl rfl 1 s, (x_JI_i hI0 hI1 hf him hJ0 hJ1), fun _ => (if_neg (fun q => hh (e.mp q))).symm⟩
    · have hc : ¬ (c = 0 ∨ c = 1) := fun q => q.elim c0 c1
      exact ⟨_, _, _, _, x_e1 (v_bdN hc s) rfl, g_bd rfl rfl rfl c s, (x_JI_i hI0 hI1 hf him hJ0 hJ1), fun _ => (if_neg (fun q => hc q.1)).symm⟩
theorem x_x9 {x : Int32} (h1 : ¬ x < -9) (h2 : x ≤ 9) : x.toInt.natAbs ≤ 9 := by
  rw [Int32.lt_iff_toInt_lt, show (-9 : Int32).toInt = -9 from rfl] at h1
  rw [Int32.le_iff_toInt_le, show (9 : Int32).toInt = 9 from rfl] at h2
  omega
theorem x_J1.put {pl ke has kp : Nat → Int32} {n : Nat} (h : x_J1 pl ke has kp n) {s : Nat} (hp : ¬ pl s = -1) {x : Int32} (hx : x.toInt.natAbs ≤ 9) : x_J1 pl (upd ke s x) has (upd kp (256 * n + s) x) n := by
  refine ⟨h.1, fun q hq => ?_, fun q hq hq2 => ?_, fun q hq => ?_⟩
  · rw [x_ui, x_ui]
    by_cases e : q = s
    · rw [if_pos e, if_pos (by omega)]
    · rw [if_neg e, if_neg (by omega)]
      exact h.2.1 q hq
  · rw [x_ui, if_neg (fun e => hp (by rw [← e]; exact hq2))]
    exact h.2.2.1 q hq hq2
  · rw [x_ui]
    by_cases e : q = s
    · rw [if_pos e]
      exact hx
    · rw [if_neg e]
      exact h.2.2.2 q hq
theorem x_J1.pet {pl ke has kp : Nat → Int32} {n : Nat} (h : x_J1 pl ke has kp n) {m s : Nat} (hm : m ≠ n) (hs : s < 256) (x : Int32) : x_J1 pl ke has (upd kp (256 * m + s) x) n := by
  refine ⟨h.1, fun q hq => ?_, h.2.2.1, h.2.2.2⟩
  rw [x_ui, if_neg (by omega)]
  exact h.2.1 q hq
theorem j_put {h : mm_H} (hJ : x_JI h) (c s x : Int32) : x_2 43 96 [.int c, .int s, .int x] h True := by
  obtain ⟨pl0, ke0, sz0, se0, gr0, pl1, ke1, sz1, se1, gr1, im, ce, wo, pv, fa, pm, pw, fr, ba, rw, ro, co, mo, mi, ki, has, ke, f, ma, wq, dv, cy, sp, e1, e2, e3, rn, cn, di, tr, hI0, hI1, hf, him, hJ0, hJ1, rfl⟩ := hJ
  by_cases c0 : c = 0
  · subst c0
    have e := x_hs (s := s) (n := 0) (by decide) hJ0.1
    by_cases hh : (¬ s ≤ 0 ∧ ¬ 256 ≤ s ∧ ¬ pl0 s.toNatClampNeg = -1) ∧ ¬ x < -9 ∧ x ≤ 9
    · have hx9 := x_x9 hh.2.1 hh.2.2
      have h2 := x_cl_lt hh.1.2.1
      have hp := hh.1.2.2
      exact ⟨_, _, _, _, x_e1 (v_put10 hh.1 hh.2.1 hh.2.2) rfl, g_put1 rfl rfl rfl (e.mpr hh.1) hh.2.1 hh.2.2, (x_JI_i hI0 hI1 hf him (hJ0.put hp hx9) (hJ1.pet (m := 0) (by decide) h2 x)), fun _ => rfl⟩
    · exact ⟨_, _, _, _, x_e1 (v_put00 hh) rfl, g_put0 (c := 0) rfl rfl (fun q => hh ⟨e.mp q.1, q.2⟩), (x_JI_i hI0 hI1 hf him hJ0 hJ1), fun _ => rfl⟩
  · by_cases c1 : c = 1
    · subst c1
      have e := x_hs (s := s) (n := 1) (by decide) hJ1.1
      by_cases hh : (¬ s ≤ 0 ∧ ¬ 256 ≤ s ∧ ¬ pl1 s.toNatClampNeg = -1) ∧ ¬ x < -9 ∧ x ≤ 9
      · have hx9 := x_x9 hh.2.1 hh.2.2
        have h2 := x_cl_lt hh.1.2.1
        have hp := hh.1.2.2
        exact ⟨_, _, _, _, x_e1 (v_put11 hh.1 hh.2.1 hh.2.2) rfl, g_put1 rfl rfl rfl (e.mpr hh.1) hh.2.1 hh.2.2, (x_JI_i hI0 hI1 hf him (hJ0.pet (m := 1) (by decide) h2 x) (hJ1.put hp hx9)), fun _ => rfl⟩
      · exact ⟨_, _, _, _, x_e1 (v_put01 hh) rfl, g_put0 (c := 1) rfl rfl (fun q => hh ⟨e.mp q.1, q.2⟩), (x_JI_i hI0 hI1 hf him hJ0 hJ1), fun _ => rfl⟩
    · have hc : ¬ (c = 0 ∨ c = 1) := fun q => q.elim c0 c1
      exact ⟨_, _, _, _, x_e1 (v_putN hc s x) rfl, g_put0 rfl rfl (fun q => hc q.1.1), (x_JI_i hI0 hI1 hf him hJ0 hJ1), fun _ => rfl⟩
theorem x_ct_0 {pl : Nat → Int32} (h : ∀ q, q < 256 → pl q = -1) (k : Nat) : ∀ t, t ≤ 255 → x_ct pl k t = 0
  | 0, _ => rfl
  | t + 1, ht => by
    rw [← x_ct_0 h k t (by omega)]
    exact if_neg (fun q => q.1 (h (t + 1) (by omega)))
theorem x_fi (f : Nat → Int32) (v : Int32) (i : Nat) {j : Nat} (h : j < i) : x_fill f v i j = v := if_pos h
theorem x_CI_0 (pl sz se : Nat → Int32) : x_CI (x_fill pl (-1) 256) (x_fill sz 0 4) se := by
  have hz := x_ct_0 (pl := x_fill pl (-1) 256) (fun q hq => x_fi pl (-1) 256 hq)
  refine ⟨fun k hk => ?_, fun q h1 h2 h3 => absurd (x_fi pl (-1) 256 h2) h3, fun q p h1 h2 h3 => absurd (x_fi pl (-1) 256 h2) h3, x_fi pl (-1) 256 (by decide)⟩
  rw [hz k 255 (Nat.le_refl _), x_fi sz 0 4 hk]
  exact ⟨rfl, by decide⟩
theorem x_cz_i (f : Nat → Int32) {a q : Nat} (hq : q < 256) : x_cz f a 256 (a + q) = 0 := if_pos ⟨by omega, by omega⟩
theorem x_cz_o (f : Nat → Int32) {a j : Nat} (h : j < a ∨ a + 256 ≤ j) : x_cz f a 256 j = f j := if_neg (by omega)
theorem x_J1.clr {pl ke has kp : Nat → Int32} {n : Nat} (h : x_J1 pl ke has kp n) : x_J1 (x_fill pl (-1) 256) (x_fill ke 0 256) (x_cz has (256 * n) 256) (x_cz kp (256 * n) 256) n := by
  refine ⟨fun q hq => ?_, fun q hq => ?_, fun q hq _ => x_fi ke 0 256 hq, fun q hq => ?_⟩
  · rw [x_cz_i has hq, x_fi pl (-1) 256 hq]
    exact ⟨fun _ => rfl, fun _ => rfl⟩
  · rw [x_cz_i kp hq, x_fi ke 0 256 hq]
  · rw [x_fi ke 0 256 hq]
    decide
theorem x_J1.clo {pl ke has kp : Nat → Int32} {n : Nat} (h : x_J1 pl ke has kp n) {m : Nat} (hm : m ≠ n) : x_J1 pl ke (x_cz has (256 * m) 256) (x_cz kp (256 * m) 256) n := by
  refine ⟨fun q hq => ?_, fun q hq => ?_, h.2.2.1, h.2.2.2⟩
  · rw [x_cz_o has (by omega)]
    exact h.1 q hq
  · rw [x_cz_o kp (by omega)]
    exact h.2.1 q hq
theorem j_clear {h : mm_H} (hJ : x_JI h) (c : Int32) : x_2 35 73 [.int c] h True := by
  obtain ⟨pl0, ke0, sz0, se0, gr0, pl1, ke1, sz1, se1, gr1, im, ce, wo, pv, fa, pm, pw, fr, ba, rw, ro, co, mo, mi, ki, has, ke, f, ma, wq, dv, cy, sp, e1, e2, e3, rn, cn, di, tr, hI0, hI1, hf, him, hJ0, hJ1, rfl⟩ := hJ
  by_cases c0 : c = 0
  · subst c0
    exact ⟨_, _, _, _, x_e1 (v_clear0) rfl, g_clear (n := 0) rfl rfl rfl (by decide), (x_JI_i (x_CI_0 _ _ _) hI1 hf him hJ0.clr (hJ1.clo (m := 0) (by decide))), fun _ => rfl⟩
  · by_cases c1 : c = 1
    · subst c1
      exact ⟨_, _, _, _, x_e1 (v_clear1) rfl, g_clear (n := 1) rfl rfl rfl (by decide), (x_JI_i hI0 (x_CI_0 _ _ _) hf him (hJ0.clo (m := 1) (by decide)) hJ1.clr), fun _ => rfl⟩
    · have hc : ¬ (c = 0 ∨ c = 1) := fun q => q.elim c0 c1
      exact ⟨_, _, _, _, x_e1 (v_clearN hc) rfl, g_clear0 hc, (x_JI_i hI0 hI1 hf him hJ0 hJ1), fun _ => rfl⟩
theorem j_map {h : mm_H} (hJ : x_JI h) (v u : Int32) : x_2 47 102 [.int v, .int u] h True := by
  obtain ⟨pl0, ke0, sz0, se0, gr0, pl1, ke1, sz1, se1, gr1, im, ce, wo, pv, fa, pm, pw, fr, ba, rw, ro, co, mo, mi, ki, has, ke, f, ma, wq, dv, cy, sp, e1, e2, e3, rn, cn, di, tr, hI0, hI1, hf, him, hJ0, hJ1, rfl⟩ := hJ
  by_cases hv : (¬ v < 0 ∧ ¬ 7 < v) ∧ ¬ u < 0 ∧ u ≤ 7
  · obtain ⟨u', hu', rfl⟩ := nI_of2 (x := u) (M := 7) (n := 7) rfl hv.2.1 hv.2.2
    refine ⟨_, _, _, _, x_e1 (v_map1 hv) rfl, g_map1 rfl rfl hv, (x_JI_i hI0 hI1 (fun w hw => ?_) (fun w hw => ?_) hJ0 hJ1), fun _ => rfl⟩
    · rw [x_ui]
      by_cases e : w = v.toNatClampNeg
      · rw [if_pos e]
        exact ⟨u', by omega, rfl⟩
      · rw [if_neg e]
        exact hf w hw
    · rw [x_ui, x_ui]
      by_cases e : w = v.toNatClampNeg
      · rw [if_pos e, if_pos e]
      · rw [if_neg e, if_neg e]
        exact him w hw
  · exact ⟨_, _, _, _, x_e1 (v_map0 hv) rfl, g_map0 hv, (x_JI_i hI0 hI1 hf him hJ0 hJ1), fun _ => rfl⟩
theorem x_fo_c {f g : Nat → Int32} (hf : x_fo f) (h : ∀ v, v < 8 → f v = g v) : x_fo g := fun v hv => by
  rw [← h v hv]
  exact hf v hv
theorem x_si_cs {pl0 ke0 pl1 ke1 has kp im f : Nat → Int32} (h0 : x_J1 pl0 ke0 has kp 0) (h1 : x_J1 pl1 ke1 has kp 1) (hf : x_fo im) (him : ∀ v, v < 8 → im v = f v) : x_si has f ↔ x_cs pl0 pl1 im := by
  have key : ∀ q, q < 256 → 1 ≤ q → ((¬ has q = 0 → ¬ has (256 + (x_io f (nI q) 8).toNatClampNeg) = 0) ↔ (¬ pl0 q = -1 → ¬ pl1 (x_ig im (nI q) 8).toNatClampNeg = -1)) := fun q hq _ => by
    have e : x_io f (nI q) 8 = x_ig im (nI q) 8 := by rw [x_ig_io]; exact x_io_c _ 8 (fun v hv => (him v hv).symm)
    obtain ⟨m, hm, em⟩ := x_ig_lt hf (nI q)
    have z0 := h0.1 q hq
    rw [Nat.mul_zero, Nat.zero_add] at z0
    have z1 := h1.1 m hm
    rw [Nat.mul_one] at z1
    rw [e, em, mm_cl (by omega), z0, z1]
  exact ⟨fun h q h1 h2 => (key q h2 h1).mp (h q h2 h1), fun h q h1 h2 => (key q h1 h2).mpr (h q h2 h1)⟩
theorem j_simplicial {h : mm_H} (hJ : x_JI h) : x_2 48 104 [] h True := by
  obtain ⟨pl0, ke0, sz0, se0, gr0, pl1, ke1, sz1, se1, gr1, im, ce, wo, pv, fa, pm, pw, fr, ba, rw, ro, co, mo, mi, ki, has, ke, f, ma, wq, dv, cy, sp, e1, e2, e3, rn, cn, di, tr, hI0, hI1, hf, him, hJ0, hJ1, rfl⟩ := hJ
  have e := x_si_cs hJ0 hJ1 hf him
  obtain ⟨v, h1, E, hv, rfl⟩ := w_simp (M := kE has ke f ma wq dv cy sp e1 e2 e3 rn cn di tr) (ke0 := ke0) (gr0 := gr0) (ke1 := ke1) (gr1 := gr1) (ce := ce) (wo := wo) (pv := pv) (fa := fa) (pm := pm) (pw := pw) (fr := fr) (ba := ba) (rw := rw) (ro := ro) (co := co) (mo := mo) (mi := mi) (ki := ki) hI0 hI1 hf
  rcases hv with ⟨rfl, hs⟩ | ⟨rfl, hs⟩
  · exact ⟨_, _, _, _, x_e1 (E) rfl, g_si1 rfl rfl rfl (x_fo_c hf him) (e.mpr hs), (x_JI_i hI0 hI1 hf him hJ0 hJ1), fun _ => rfl⟩
  · exact ⟨_, _, _, _, x_e1 (E) rfl, g_si0 rfl rfl rfl (x_fo_c hf him) (fun q => hs (e.mp q)), (x_JI_i hI0 hI1 hf him hJ0 hJ1), fun _ => rfl⟩
