/-! THE LAW'S LOOP over the joint invariant -/
theorem x_lend {L : Nat} (hL : L ≤ 2560) : Int32.ofNat L - 5 < nI (5 * (L / 5)) := by
  by_cases h : 5 ≤ L
  · rw [show Int32.ofNat L - 5 = nI (L - 5) from x_nsub (a := L) (b := 5) h]
    exact nI_lt (by omega) (by omega)
  · have : L = 0 ∨ L = 1 ∨ L = 2 ∨ L = 3 ∨ L = 4 := by omega
    rcases this with rfl | rfl | rfl | rfl | rfl <;> decide
theorem x_J0 : x_JI k_h0 := by
  have hz := x_ct_0 (pl := x_P0) (fun q hq => x_fi (fun _ => 0) (-1) 256 hq)
  have hI : x_CI x_P0 (fun _ => 0) (fun _ => 0) := by
    refine ⟨fun k hk => ?_, fun q h1 h2 h3 => absurd (x_fi (fun _ => 0) (-1) 256 h2) h3, fun q p h1 h2 h3 => absurd (x_fi (fun _ => 0) (-1) 256 h2) h3, x_fi (fun _ => 0) (-1) 256 (by decide)⟩
    rw [hz k 255 (Nat.le_refl _)]
    exact ⟨rfl, by decide⟩
  have hJ : ∀ n, x_J1 x_P0 (fun _ => 0) (fun _ => 0) (fun _ => 0) n := fun n => ⟨fun q hq => ⟨fun _ => x_fi (fun _ => 0) (-1) 256 hq, fun _ => rfl⟩, fun _ _ => rfl, fun _ _ _ => rfl, fun _ _ => (by decide : ((0 : Int32).toInt.natAbs) ≤ 9)⟩
  exact x_JI_i (im := x_idn 8) (f := x_idn 8) (fr := fun _ => 0) (ba := fun _ => 0) hI hI (fun v hv => ⟨v, hv, if_pos hv⟩) (fun v _ => rfl) (hJ 0) (hJ 1)
theorem x_JI.o {h : mm_H} (hJ : x_JI h) : ∃ fs, mm_nth h 0 = some (.inr (3, fs)) := by
  obtain ⟨_, _, _, _, _, _, _, _, _, _, _, _, _, _, _, _, _, _, _, _, _, _, _, _, _, _, _, _, _, _, _, _, _, _, _, _, _, _, _, _, -, -, -, -, -, -, rfl⟩ := hJ
  exact ⟨_, rfl⟩
theorem x_5s (m : Nat) : nI (5 * m) + Int32.ofInt 5 = nI (5 * (m + 1)) := nI_add (5 * m) 5
set_option maxHeartbeats 4000000 in
set_option maxRecDepth 100000 in
theorem x_lawT {L : Nat} {xs : Nat → Int32} (hL : L ≤ 2560) : mm_T kM (some (L, xs)) 116 18 [some (.retAddr 0), some (.ref 0), some (.ref 25), some (.int 0)] [] k_h0 (fun v _ => v = some (.int 1)) := by
  refine mm_T.up (n := L / 5) (P := fun m Lo h => ∃ x3, x3 = nI (5 * m) ∧ x_JI h ∧ Lo = [some (.retAddr 0), some (.ref 0), some (.ref 25), some (.int x3)]) ?_ ?_ 0 (Nat.zero_le _) _ _ ⟨_, rfl, x_J0, rfl⟩
  · rintro m _ h hm ⟨x3, rfl, hJ, rfl⟩ K
    obtain ⟨fs, hX⟩ := hJ.o
    obtain ⟨j, hj, ej⟩ := pk_andE (xs (5 * m)) (m := 31) 5 rfl
    refine mm_T.s rfl rfl rfl (fun _ => rfl) ?_
    refine mm_T.s rfl rfl rfl (fun _ => rfl) ?_
    refine mm_T.s rfl rfl rfl (fun _ => rfl) ?_
    refine mm_T.s rfl rfl rfl (fun _ => rfl) ?_
    refine mm_T.s rfl rfl rfl (fun _ => rfl) ?_
    refine mm_T.ti _ (x_nsub (a := L) (b := 5) (by omega)) ?_
    refine mm_T.s rfl rfl rfl (fun _ => if_neg (fun q => absurd ((nI_ltI (by omega) (by omega)).mp q) (by omega))) ?_
    refine mm_T.s rfl rfl rfl (fun _ => rfl) ?_
    refine mm_T.s rfl rfl rfl (fun _ => rfl) ?_
    refine mm_T.xa (v := xs (5 * m)) rfl rfl (mm_bd (by omega) (by omega)) (by rw [mm_cl (by omega)]) ?_
    refine mm_T.s rfl rfl rfl (fun _ => rfl) ?_
    refine mm_T.s rfl rfl rfl (fun _ => rfl) ?_
    refine mm_T.ti (nI j) ej ?_
    have hc : j = 0 ∨ j = 1 ∨ j = 2 ∨ j = 3 ∨ j = 4 ∨ j = 5 ∨ j = 6 ∨ j = 7 ∨ j = 8 ∨ j = 9 ∨ j = 10 ∨ j = 11 ∨ j = 12 ∨ j = 13 ∨ j = 14 ∨ j = 15 ∨ j = 16 ∨ j = 17 ∨ 17 < j := by omega
    rcases hc with rfl | rfl | rfl | rfl | rfl | rfl | rfl | rfl | rfl | rfl | rfl | rfl | rfl | rfl | rfl | rfl | rfl | rfl | h17
    · obtain ⟨v1, v2, h1, h2, ⟨E1, fs2, hO⟩, E2, hJ2, hv⟩ := j_add hJ (xs (5 * m + 1)) (xs (5 * m + 2))
      refine mm_T.s rfl rfl rfl (fun _ => rfl) ?_
      refine mm_T.s rfl rfl rfl (fun _ => rfl) ?_
      refine mm_T.s rfl rfl rfl (fun _ => rfl) ?_
      refine mm_T.s rfl rfl rfl (fun _ => rfl) ?_
      refine mm_T.s rfl rfl rfl (fun _ => rfl) ?_
      refine mm_T.s rfl rfl rfl (fun _ => rfl) ?_
      refine mm_T.ti _ (nI_add (5 * m) 1) ?_
      refine mm_T.xa (v := xs (5 * m + 1)) rfl rfl (mm_bd (by omega) (by omega)) (by rw [mm_cl (by omega)]) ?_
      refine mm_T.s rfl rfl rfl (fun _ => rfl) ?_
      refine mm_T.s rfl rfl rfl (fun _ => rfl) ?_
      refine mm_T.s rfl rfl rfl (fun _ => rfl) ?_
      refine mm_T.s rfl rfl rfl (fun _ => rfl) ?_
      refine mm_T.ti _ (nI_add (5 * m) 2) ?_
      refine mm_T.xa (v := xs (5 * m + 2)) rfl rfl (mm_bd (by omega) (by omega)) (by rw [mm_cl (by omega)]) ?_
      refine mm_T.iv rfl rfl rfl rfl hX rfl E1 ?_
      refine mm_T.s rfl rfl rfl (fun _ => rfl) ?_
      refine mm_T.s rfl rfl rfl (fun _ => rfl) ?_
      refine mm_T.s rfl rfl rfl (fun _ => rfl) ?_
      refine mm_T.s rfl rfl rfl (fun _ => rfl) ?_
      refine mm_T.s rfl rfl rfl (fun _ => rfl) ?_
      refine mm_T.s rfl rfl rfl (fun _ => rfl) ?_
      refine mm_T.ti _ (nI_add (5 * m) 1) ?_
      refine mm_T.xa (v := xs (5 * m + 1)) rfl rfl (mm_bd (by omega) (by omega)) (by rw [mm_cl (by omega)]) ?_
      refine mm_T.s rfl rfl rfl (fun _ => rfl) ?_
      refine mm_T.s rfl rfl rfl (fun _ => rfl) ?_
      refine mm_T.s rfl rfl rfl (fun _ => rfl) ?_
      refine mm_T.s rfl rfl rfl (fun _ => rfl) ?_
      refine mm_T.ti _ (nI_add (5 * m) 2) ?_
      refine mm_T.xa (v := xs (5 * m + 2)) rfl rfl (mm_bd (by omega) (by omega)) (by rw [mm_cl (by omega)]) ?_
      refine mm_T.iv rfl rfl rfl rfl hO rfl E2 ?_
      refine mm_T.s rfl rfl rfl (fun _ => rfl) ?_
      refine mm_T.s rfl rfl rfl (fun _ => rfl) ?_
      refine mm_T.s rfl rfl rfl (fun _ => rfl) ?_
      refine mm_T.s rfl rfl rfl (fun _ => rfl) ?_
      exact K _ _ ⟨_, x_5s m, hJ2, rfl⟩
    · obtain ⟨v1, v2, h1, h2, ⟨E1, fs2, hO⟩, E2, hJ2, hv⟩ := j_clear hJ (xs (5 * m + 1))
      refine mm_T.s rfl rfl rfl (fun _ => rfl) ?_
      refine mm_T.s rfl rfl rfl (fun _ => rfl) ?_
      refine mm_T.s rfl rfl rfl (fun _ => rfl) ?_
      refine mm_T.s rfl rfl rfl (fun _ => rfl) ?_
      refine mm_T.s rfl rfl rfl (fun _ => rfl) ?_
      refine mm_T.s rfl rfl rfl (fun _ => rfl) ?_
      refine mm_T.ti _ (nI_add (5 * m) 1) ?_
      refine mm_T.xa (v := xs (5 * m + 1)) rfl rfl (mm_bd (by omega) (by omega)) (by rw [mm_cl (by omega)]) ?_
      refine mm_T.iv rfl rfl rfl rfl hX rfl E1 ?_
      refine mm_T.s rfl rfl rfl (fun _ => rfl) ?_
      refine mm_T.s rfl rfl rfl (fun _ => rfl) ?_
      refine mm_T.s rfl rfl rfl (fun _ => rfl) ?_
      refine mm_T.s rfl rfl rfl (fun _ => rfl) ?_
      refine mm_T.s rfl rfl rfl (fun _ => rfl) ?_
      refine mm_T.s rfl rfl rfl (fun _ => rfl) ?_
      refine mm_T.ti _ (nI_add (5 * m) 1) ?_
      refine mm_T.xa (v := xs (5 * m + 1)) rfl rfl (mm_bd (by omega) (by omega)) (by rw [mm_cl (by omega)]) ?_
      refine mm_T.iv rfl rfl rfl rfl hO rfl E2 ?_
      refine mm_T.s rfl rfl rfl (fun _ => rfl) ?_
      refine mm_T.s rfl rfl rfl (fun _ => rfl) ?_
      refine mm_T.s rfl rfl rfl (fun _ => rfl) ?_
      refine mm_T.s rfl rfl rfl (fun _ => rfl) ?_
      exact K _ _ ⟨_, x_5s m, hJ2, rfl⟩
    · obtain ⟨v1, v2, h1, h2, ⟨E1, fs2, hO⟩, E2, hJ2, hv⟩ := j_count hJ (xs (5 * m + 1)) (xs (5 * m + 2))
      refine mm_T.s rfl rfl rfl (fun _ => rfl) ?_
      refine mm_T.s rfl rfl rfl (fun _ => rfl) ?_
      refine mm_T.s rfl rfl rfl (fun _ => rfl) ?_
      refine mm_T.s rfl rfl rfl (fun _ => rfl) ?_
      refine mm_T.s rfl rfl rfl (fun _ => rfl) ?_
      refine mm_T.s rfl rfl rfl (fun _ => rfl) ?_
      refine mm_T.ti _ (nI_add (5 * m) 1) ?_
      refine mm_T.xa (v := xs (5 * m + 1)) rfl rfl (mm_bd (by omega) (by omega)) (by rw [mm_cl (by omega)]) ?_
      refine mm_T.s rfl rfl rfl (fun _ => rfl) ?_
      refine mm_T.s rfl rfl rfl (fun _ => rfl) ?_
      refine mm_T.s rfl rfl rfl (fun _ => rfl) ?_
      refine mm_T.s rfl rfl rfl (fun _ => rfl) ?_
      refine mm_T.ti _ (nI_add (5 * m) 2) ?_
      refine mm_T.xa (v := xs (5 * m + 2)) rfl rfl (mm_bd (by omega) (by omega)) (by rw [mm_cl (by omega)]) ?_
      refine mm_T.iv rfl rfl rfl rfl hX rfl E1 ?_
      refine mm_T.s rfl rfl rfl (fun _ => rfl) ?_
      refine mm_T.s rfl rfl rfl (fun _ => rfl) ?_
      refine mm_T.s rfl rfl rfl (fun _ => rfl) ?_
      refine mm_T.s rfl rfl rfl (fun _ => rfl) ?_
      refine mm_T.s rfl rfl rfl (fun _ => rfl) ?_
      refine mm_T.s rfl rfl rfl (fun _ => rfl) ?_
      refine mm_T.ti _ (nI_add (5 * m) 1) ?_
      refine mm_T.xa (v := xs (5 * m + 1)) rfl rfl (mm_bd (by omega) (by omega)) (by rw [mm_cl (by omega)]) ?_
      refine mm_T.s rfl rfl rfl (fun _ => rfl) ?_
      refine mm_T.s rfl rfl rfl (fun _ => rfl) ?_
      refine mm_T.s rfl rfl rfl (fun _ => rfl) ?_
      refine mm_T.s rfl rfl rfl (fun _ => rfl) ?_
      refine mm_T.ti _ (nI_add (5 * m) 2) ?_
      refine mm_T.xa (v := xs (5 * m + 2)) rfl rfl (mm_bd (by omega) (by omega)) (by rw [mm_cl (by omega)]) ?_
      refine mm_T.iv rfl rfl rfl rfl hO rfl E2 ?_
      refine mm_T.s rfl rfl rfl (fun _ => rfl) ?_
      refine mm_T.s rfl rfl rfl (fun _ => rfl) ?_
      refine mm_T.s rfl rfl rfl (fun _ => rfl) ?_
      refine mm_T.s rfl rfl rfl (fun _ => rfl) ?_
      exact K _ _ ⟨_, x_5s m, hJ2, rfl⟩
    · obtain ⟨v1, v2, h1, h2, ⟨E1, fs2, hO⟩, E2, hJ2, hv⟩ := j_simplex hJ (xs (5 * m + 1)) (xs (5 * m + 2)) (xs (5 * m + 3))
      refine mm_T.s rfl rfl rfl (fun _ => rfl) ?_
      refine mm_T.s rfl rfl rfl (fun _ => rfl) ?_
      refine mm_T.s rfl rfl rfl (fun _ => rfl) ?_
      refine mm_T.s rfl rfl rfl (fun _ => rfl) ?_
      refine mm_T.s rfl rfl rfl (fun _ => rfl) ?_
      refine mm_T.s rfl rfl rfl (fun _ => rfl) ?_
      refine mm_T.ti _ (nI_add (5 * m) 1) ?_
      refine mm_T.xa (v := xs (5 * m + 1)) rfl rfl (mm_bd (by omega) (by omega)) (by rw [mm_cl (by omega)]) ?_
      refine mm_T.s rfl rfl rfl (fun _ => rfl) ?_
      refine mm_T.s rfl rfl rfl (fun _ => rfl) ?_
      refine mm_T.s rfl rfl rfl (fun _ => rfl) ?_
      refine mm_T.s rfl rfl rfl (fun _ => rfl) ?_
      refine mm_T.ti _ (nI_add (5 * m) 2) ?_
      refine mm_T.xa (v := xs (5 * m + 2)) rfl rfl (mm_bd (by omega) (by omega)) (by rw [mm_cl (by omega)]) ?_
      refine mm_T.s rfl rfl rfl (fun _ => rfl) ?_
      refine mm_T.s rfl rfl rfl (fun _ => rfl) ?_
      refine mm_T.s rfl rfl rfl (fun _ => rfl) ?_
      refine mm_T.s rfl rfl rfl (fun _ => rfl) ?_
      refine mm_T.ti _ (nI_add (5 * m) 3) ?_
      refine mm_T.xa (v := xs (5 * m + 3)) rfl rfl (mm_bd (by omega) (by omega)) (by rw [mm_cl (by omega)]) ?_
      refine mm_T.iv rfl rfl rfl rfl hX rfl E1 ?_
      refine mm_T.s rfl rfl rfl (fun _ => rfl) ?_
      refine mm_T.s rfl rfl rfl (fun _ => rfl) ?_
      refine mm_T.s rfl rfl rfl (fun _ => rfl) ?_
      refine mm_T.s rfl rfl rfl (fun _ => rfl) ?_
      refine mm_T.s rfl rfl rfl (fun _ => rfl) ?_
      refine mm_T.s rfl rfl rfl (fun _ => rfl) ?_
      refine mm_T.ti _ (nI_add (5 * m) 1) ?_
      refine mm_T.xa (v := xs (5 * m + 1)) rfl rfl (mm_bd (by omega) (by omega)) (by rw [mm_cl (by omega)]) ?_
      refine mm_T.s rfl rfl rfl (fun _ => rfl) ?_
      refine mm_T.s rfl rfl rfl (fun _ => rfl) ?_
      refine mm_T.s rfl rfl rfl (fun _ => rfl) ?_
      refine mm_T.s rfl rfl rfl (fun _ => rfl) ?_
      refine mm_T.ti _ (nI_add (5 * m) 2) ?_
      refine mm_T.xa (v := xs (5 * m + 2)) rfl rfl (mm_bd (by omega) (by omega)) (by rw [mm_cl (by omega)]) ?_
      refine mm_T.s rfl rfl rfl (fun _ => rfl) ?_
      refine mm_T.s rfl rfl rfl (fun _ => rfl) ?_
      refine mm_T.s rfl rfl rfl (fun _ => rfl) ?_
      refine mm_T.s rfl rfl rfl (fun _ => rfl) ?_
      refine mm_T.ti _ (nI_add (5 * m) 3) ?_
      refine mm_T.xa (v := xs (5 * m + 3)) rfl rfl (mm_bd (by omega) (by omega)) (by rw [mm_cl (by omega)]) ?_
      refine mm_T.iv rfl rfl rfl rfl hO rfl E2 ?_
      refine mm_T.s rfl rfl rfl (fun _ => rfl) ?_
      refine mm_T.s rfl rfl rfl (fun _ => rfl) ?_
      refine mm_T.s rfl rfl rfl (fun _ => rfl) ?_
      refine mm_T.s rfl rfl rfl (fun _ => rfl) ?_
      exact K _ _ ⟨_, x_5s m, hJ2, rfl⟩
    · obtain ⟨v1, v2, h1, h2, ⟨E1, fs2, hO⟩, E2, hJ2, hv⟩ := j_incidence hJ (xs (5 * m + 1)) (xs (5 * m + 2)) (xs (5 * m + 3)) (xs (5 * m + 4))
      refine mm_T.s rfl rfl rfl (fun _ => rfl) ?_
      refine mm_T.s rfl rfl rfl (fun _ => rfl) ?_
      refine mm_T.s rfl rfl rfl (fun _ => rfl) ?_
      refine mm_T.s rfl rfl rfl (fun _ => rfl) ?_
      refine mm_T.s rfl rfl rfl (fun _ => rfl) ?_
      refine mm_T.s rfl rfl rfl (fun _ => rfl) ?_
      refine mm_T.ti _ (nI_add (5 * m) 1) ?_
      refine mm_T.xa (v := xs (5 * m + 1)) rfl rfl (mm_bd (by omega) (by omega)) (by rw [mm_cl (by omega)]) ?_
      refine mm_T.s rfl rfl rfl (fun _ => rfl) ?_
      refine mm_T.s rfl rfl rfl (fun _ => rfl) ?_
      refine mm_T.s rfl rfl rfl (fun _ => rfl) ?_
      refine mm_T.s rfl rfl rfl (fun _ => rfl) ?_
      refine mm_T.ti _ (nI_add (5 * m) 2) ?_
      refine mm_T.xa (v := xs (5 * m + 2)) rfl rfl (mm_bd (by omega) (by omega)) (by rw [mm_cl (by omega)]) ?_
      refine mm_T.s rfl rfl rfl (fun _ => rfl) ?_
      refine mm_T.s rfl rfl rfl (fun _ => rfl) ?_
      refine mm_T.s rfl rfl rfl (fun _ => rfl) ?_
      refine mm_T.s rfl rfl rfl (fun _ => rfl) ?_
      refine mm_T.ti _ (nI_add (5 * m) 3) ?_
      refine mm_T.xa (v := xs (5 * m + 3)) rfl rfl (mm_bd (by omega) (by omega)) (by rw [mm_cl (by omega)]) ?_
      refine mm_T.s rfl rfl rfl (fun _ => rfl) ?_
      refine mm_T.s rfl rfl rfl (fun _ => rfl) ?_
      refine mm_T.s rfl rfl rfl (fun _ => rfl) ?_
      refine mm_T.s rfl rfl rfl (fun _ => rfl) ?_
      refine mm_T.ti _ (nI_add (5 * m) 4) ?_
      refine mm_T.xa (v := xs (5 * m + 4)) rfl rfl (mm_bd (by omega) (by omega)) (by rw [mm_cl (by omega)]) ?_
      refine mm_T.iv rfl rfl rfl rfl hX rfl E1 ?_
      refine mm_T.s rfl rfl rfl (fun _ => rfl) ?_
      refine mm_T.s rfl rfl rfl (fun _ => rfl) ?_
      refine mm_T.s rfl rfl rfl (fun _ => rfl) ?_
      refine mm_T.s rfl rfl rfl (fun _ => rfl) ?_
      refine mm_T.s rfl rfl rfl (fun _ => rfl) ?_
      refine mm_T.s rfl rfl rfl (fun _ => rfl) ?_
      refine mm_T.ti _ (nI_add (5 * m) 1) ?_
      refine mm_T.xa (v := xs (5 * m + 1)) rfl rfl (mm_bd (by omega) (by omega)) (by rw [mm_cl (by omega)]) ?_
      refine mm_T.s rfl rfl rfl (fun _ => rfl) ?_
      refine mm_T.s rfl rfl rfl (fun _ => rfl) ?_
      refine mm_T.s rfl rfl rfl (fun _ => rfl) ?_
      refine mm_T.s rfl rfl rfl (fun _ => rfl) ?_
      refine mm_T.ti _ (nI_add (5 * m) 2) ?_
      refine mm_T.xa (v := xs (5 * m + 2)) rfl rfl (mm_bd (by omega) (by omega)) (by rw [mm_cl (by omega)]) ?_
      refine mm_T.s rfl rfl rfl (fun _ => rfl) ?_
      refine mm_T.s rfl rfl rfl (fun _ => rfl) ?_
      refine mm_T.s rfl rfl rfl (fun _ => rfl) ?_
      refine mm_T.s rfl rfl rfl (fun _ => rfl) ?_
      refine mm_T.ti _ (nI_add (5 * m) 3) ?_
      refine mm_T.xa (v := xs (5 * m + 3)) rfl rfl (mm_bd (by omega) (by omega)) (by rw [mm_cl (by omega)]) ?_
      refine mm_T.s rfl rfl rfl (fun _ => rfl) ?_
      refine mm_T.s rfl rfl rfl (fun _ => rfl) ?_
      refine mm_T.s rfl rfl rfl (fun _ => rfl) ?_
      refine mm_T.s rfl rfl rfl (fun _ => rfl) ?_
      refine mm_T.ti _ (nI_add (5 * m) 4) ?_
      refine mm_T.xa (v := xs (5 * m + 4)) rfl rfl (mm_bd (by omega) (by omega)) (by rw [mm_cl (by omega)]) ?_
      refine mm_T.iv rfl rfl rfl rfl hO rfl E2 ?_
      refine mm_T.s rfl rfl rfl (fun _ => rfl) ?_
      refine mm_T.s rfl rfl rfl (fun _ => rfl) ?_
      refine mm_T.s rfl rfl rfl (fun _ => rfl) ?_
      refine mm_T.s rfl rfl rfl (fun _ => rfl) ?_
      exact K _ _ ⟨_, x_5s m, hJ2, rfl⟩
    · obtain ⟨v1, v2, h1, h2, ⟨E1, fs2, hO⟩, E2, hJ2, hv⟩ := j_euler hJ (xs (5 * m + 1))
      refine mm_T.s rfl rfl rfl (fun _ => rfl) ?_
      refine mm_T.s rfl rfl rfl (fun _ => rfl) ?_
      refine mm_T.s rfl rfl rfl (fun _ => rfl) ?_
      refine mm_T.s rfl rfl rfl (fun _ => rfl) ?_
      refine mm_T.s rfl rfl rfl (fun _ => rfl) ?_
      refine mm_T.s rfl rfl rfl (fun _ => rfl) ?_
      refine mm_T.ti _ (nI_add (5 * m) 1) ?_
      refine mm_T.xa (v := xs (5 * m + 1)) rfl rfl (mm_bd (by omega) (by omega)) (by rw [mm_cl (by omega)]) ?_
      refine mm_T.iv rfl rfl rfl rfl hX rfl E1 ?_
      refine mm_T.s rfl rfl rfl (fun _ => rfl) ?_
      refine mm_T.s rfl rfl rfl (fun _ => rfl) ?_
      refine mm_T.s rfl rfl rfl (fun _ => rfl) ?_
      refine mm_T.s rfl rfl rfl (fun _ => rfl) ?_
      refine mm_T.s rfl rfl rfl (fun _ => rfl) ?_
      refine mm_T.s rfl rfl rfl (fun _ => rfl) ?_
      refine mm_T.ti _ (nI_add (5 * m) 1) ?_
      refine mm_T.xa (v := xs (5 * m + 1)) rfl rfl (mm_bd (by omega) (by omega)) (by rw [mm_cl (by omega)]) ?_
      refine mm_T.iv rfl rfl rfl rfl hO rfl E2 ?_
      refine mm_T.s rfl rfl rfl (fun _ => rfl) ?_
      refine mm_T.s rfl rfl rfl (fun _ => rfl) ?_
      refine mm_T.s rfl rfl rfl (fun _ => rfl) ?_
      refine mm_T.s rfl rfl rfl (fun _ => rfl) ?_
      exact K _ _ ⟨_, x_5s m, hJ2, rfl⟩
    · obtain ⟨v1, v2, h1, h2, ⟨E1, fs2, hO⟩, E2, hJ2, hv⟩ := j_betti hJ (xs (5 * m + 1)) (xs (5 * m + 2))
      refine mm_T.s rfl rfl rfl (fun _ => rfl) ?_
      refine mm_T.s rfl rfl rfl (fun _ => rfl) ?_
      refine mm_T.s rfl rfl rfl (fun _ => rfl) ?_
      refine mm_T.s rfl rfl rfl (fun _ => rfl) ?_
      refine mm_T.s rfl rfl rfl (fun _ => rfl) ?_
      refine mm_T.s rfl rfl rfl (fun _ => rfl) ?_
      refine mm_T.ti _ (nI_add (5 * m) 1) ?_
      refine mm_T.xa (v := xs (5 * m + 1)) rfl rfl (mm_bd (by omega) (by omega)) (by rw [mm_cl (by omega)]) ?_
      refine mm_T.s rfl rfl rfl (fun _ => rfl) ?_
      refine mm_T.s rfl rfl rfl (fun _ => rfl) ?_
      refine mm_T.s rfl rfl rfl (fun _ => rfl) ?_
      refine mm_T.s rfl rfl rfl (fun _ => rfl) ?_
      refine mm_T.ti _ (nI_add (5 * m) 2) ?_
      refine mm_T.xa (v := xs (5 * m + 2)) rfl rfl (mm_bd (by omega) (by omega)) (by rw [mm_cl (by omega)]) ?_
      refine mm_T.iv rfl rfl rfl rfl hX rfl E1 ?_
      refine mm_T.s rfl rfl rfl (fun _ => rfl) ?_
      refine mm_T.s rfl rfl rfl (fun _ => rfl) ?_
      refine mm_T.s rfl rfl rfl (fun _ => rfl) ?_
      refine mm_T.s rfl rfl rfl (fun _ => rfl) ?_
      refine mm_T.s rfl rfl rfl (fun _ => rfl) ?_
      refine mm_T.s rfl rfl rfl (fun _ => rfl) ?_
      refine mm_T.ti _ (nI_add (5 * m) 1) ?_
      refine mm_T.xa (v := xs (5 * m + 1)) rfl rfl (mm_bd (by omega) (by omega)) (by rw [mm_cl (by omega)]) ?_
      refine mm_T.s rfl rfl rfl (fun _ => rfl) ?_
      refine mm_T.s rfl rfl rfl (fun _ => rfl) ?_
      refine mm_T.s rfl rfl rfl (fun _ => rfl) ?_
      refine mm_T.s rfl rfl rfl (fun _ => rfl) ?_
      refine mm_T.ti _ (nI_add (5 * m) 2) ?_
      refine mm_T.xa (v := xs (5 * m + 2)) rfl rfl (mm_bd (by omega) (by omega)) (by rw [mm_cl (by omega)]) ?_
      refine mm_T.iv rfl rfl rfl rfl hO rfl E2 ?_
      refine mm_T.s rfl rfl rfl (fun _ => rfl) ?_
      refine mm_T.s rfl rfl rfl (fun _ => rfl) ?_
      refine mm_T.s rfl rfl rfl (fun _ => rfl) ?_
      refine mm_T.s rfl rfl rfl (fun _ => rfl) ?_
      exact K _ _ ⟨_, x_5s m, hJ2, rfl⟩
    · obtain ⟨v1, v2, h1, h2, ⟨E1, fs2, hO⟩, E2, hJ2, hv⟩ := j_torsion hJ (xs (5 * m + 1)) (xs (5 * m + 2)) (xs (5 * m + 3))
      refine mm_T.s rfl rfl rfl (fun _ => rfl) ?_
      refine mm_T.s rfl rfl rfl (fun _ => rfl) ?_
      refine mm_T.s rfl rfl rfl (fun _ => rfl) ?_
      refine mm_T.s rfl rfl rfl (fun _ => rfl) ?_
      refine mm_T.s rfl rfl rfl (fun _ => rfl) ?_
      refine mm_T.s rfl rfl rfl (fun _ => rfl) ?_
      refine mm_T.ti _ (nI_add (5 * m) 1) ?_
      refine mm_T.xa (v := xs (5 * m + 1)) rfl rfl (mm_bd (by omega) (by omega)) (by rw [mm_cl (by omega)]) ?_
      refine mm_T.s rfl rfl rfl (fun _ => rfl) ?_
      refine mm_T.s rfl rfl rfl (fun _ => rfl) ?_
      refine mm_T.s rfl rfl rfl (fun _ => rfl) ?_
      refine mm_T.s rfl rfl rfl (fun _ => rfl) ?_
      refine mm_T.ti _ (nI_add (5 * m) 2) ?_
      refine mm_T.xa (v := xs (5 * m + 2)) rfl rfl (mm_bd (by omega) (by omega)) (by rw [mm_cl (by omega)]) ?_
      refine mm_T.s rfl rfl rfl (fun _ => rfl) ?_
      refine mm_T.s rfl rfl rfl (fun _ => rfl) ?_
      refine mm_T.s rfl rfl rfl (fun _ => rfl) ?_
      refine mm_T.s rfl rfl rfl (fun _ => rfl) ?_
      refine mm_T.ti _ (nI_add (5 * m) 3) ?_
      refine mm_T.xa (v := xs (5 * m + 3)) rfl rfl (mm_bd (by omega) (by omega)) (by rw [mm_cl (by omega)]) ?_
      refine mm_T.iv rfl rfl rfl rfl hX rfl E1 ?_
      refine mm_T.s rfl rfl rfl (fun _ => rfl) ?_
      refine mm_T.s rfl rfl rfl (fun _ => rfl) ?_
      refine mm_T.s rfl rfl rfl (fun _ => rfl) ?_
      refine mm_T.s rfl rfl rfl (fun _ => rfl) ?_
      refine mm_T.s rfl rfl rfl (fun _ => rfl) ?_
      refine mm_T.s rfl rfl rfl (fun _ => rfl) ?_
      refine mm_T.ti _ (nI_add (5 * m) 1) ?_
      refine mm_T.xa (v := xs (5 * m + 1)) rfl rfl (mm_bd (by omega) (by omega)) (by rw [mm_cl (by omega)]) ?_
      refine mm_T.s rfl rfl rfl (fun _ => rfl) ?_
      refine mm_T.s rfl rfl rfl (fun _ => rfl) ?_
      refine mm_T.s rfl rfl rfl (fun _ => rfl) ?_
      refine mm_T.s rfl rfl rfl (fun _ => rfl) ?_
      refine mm_T.ti _ (nI_add (5 * m) 2) ?_
      refine mm_T.xa (v := xs (5 * m + 2)) rfl rfl (mm_bd (by omega) (by omega)) (by rw [mm_cl (by omega)]) ?_
      refine mm_T.s rfl rfl rfl (fun _ => rfl) ?_
      refine mm_T.s rfl rfl rfl (fun _ => rfl) ?_
      refine mm_T.s rfl rfl rfl (fun _ => rfl) ?_
      refine mm_T.s rfl rfl rfl (fun _ => rfl) ?_
      refine mm_T.ti _ (nI_add (5 * m) 3) ?_
      refine mm_T.xa (v := xs (5 * m + 3)) rfl rfl (mm_bd (by omega) (by omega)) (by rw [mm_cl (by omega)]) ?_
      refine mm_T.iv rfl rfl rfl rfl hO rfl E2 ?_
      refine mm_T.s rfl rfl rfl (fun _ => rfl) ?_
      refine mm_T.s rfl rfl rfl (fun _ => rfl) ?_
      refine mm_T.s rfl rfl rfl (fun _ => rfl) ?_
      refine mm_T.s rfl rfl rfl (fun _ => rfl) ?_
      exact K _ _ ⟨_, x_5s m, hJ2, rfl⟩
    · obtain ⟨v1, v2, h1, h2, ⟨E1, fs2, hO⟩, E2, hJ2, hv⟩ := j_bettiM hJ (xs (5 * m + 1)) (xs (5 * m + 2)) (xs (5 * m + 3))
      refine mm_T.s rfl rfl rfl (fun _ => rfl) ?_
      refine mm_T.s rfl rfl rfl (fun _ => rfl) ?_
      refine mm_T.s rfl rfl rfl (fun _ => rfl) ?_
      refine mm_T.s rfl rfl rfl (fun _ => rfl) ?_
      refine mm_T.s rfl rfl rfl (fun _ => rfl) ?_
      refine mm_T.s rfl rfl rfl (fun _ => rfl) ?_
      refine mm_T.ti _ (nI_add (5 * m) 1) ?_
      refine mm_T.xa (v := xs (5 * m + 1)) rfl rfl (mm_bd (by omega) (by omega)) (by rw [mm_cl (by omega)]) ?_
      refine mm_T.s rfl rfl rfl (fun _ => rfl) ?_
      refine mm_T.s rfl rfl rfl (fun _ => rfl) ?_
      refine mm_T.s rfl rfl rfl (fun _ => rfl) ?_
      refine mm_T.s rfl rfl rfl (fun _ => rfl) ?_
      refine mm_T.ti _ (nI_add (5 * m) 2) ?_
      refine mm_T.xa (v := xs (5 * m + 2)) rfl rfl (mm_bd (by omega) (by omega)) (by rw [mm_cl (by omega)]) ?_
      refine mm_T.s rfl rfl rfl (fun _ => rfl) ?_
      refine mm_T.s rfl rfl rfl (fun _ => rfl) ?_
      refine mm_T.s rfl rfl rfl (fun _ => rfl) ?_
      refine mm_T.s rfl rfl rfl (fun _ => rfl) ?_
      refine mm_T.ti _ (nI_add (5 * m) 3) ?_
      refine mm_T.xa (v := xs (5 * m + 3)) rfl rfl (mm_bd (by omega) (by omega)) (by rw [mm_cl (by omega)]) ?_
      refine mm_T.iv rfl rfl rfl rfl hX rfl E1 ?_
      refine mm_T.s rfl rfl rfl (fun _ => rfl) ?_
      refine mm_T.s rfl rfl rfl (fun _ => rfl) ?_
      refine mm_T.s rfl rfl rfl (fun _ => rfl) ?_
      refine mm_T.s rfl rfl rfl (fun _ => rfl) ?_
      refine mm_T.s rfl rfl rfl (fun _ => rfl) ?_
      refine mm_T.s rfl rfl rfl (fun _ => rfl) ?_
      refine mm_T.ti _ (nI_add (5 * m) 1) ?_
      refine mm_T.xa (v := xs (5 * m + 1)) rfl rfl (mm_bd (by omega) (by omega)) (by rw [mm_cl (by omega)]) ?_
      refine mm_T.s rfl rfl rfl (fun _ => rfl) ?_
      refine mm_T.s rfl rfl rfl (fun _ => rfl) ?_
      refine mm_T.s rfl rfl rfl (fun _ => rfl) ?_
      refine mm_T.s rfl rfl rfl (fun _ => rfl) ?_
      refine mm_T.ti _ (nI_add (5 * m) 2) ?_
      refine mm_T.xa (v := xs (5 * m + 2)) rfl rfl (mm_bd (by omega) (by omega)) (by rw [mm_cl (by omega)]) ?_
      refine mm_T.s rfl rfl rfl (fun _ => rfl) ?_
      refine mm_T.s rfl rfl rfl (fun _ => rfl) ?_
      refine mm_T.s rfl rfl rfl (fun _ => rfl) ?_
      refine mm_T.s rfl rfl rfl (fun _ => rfl) ?_
      refine mm_T.ti _ (nI_add (5 * m) 3) ?_
      refine mm_T.xa (v := xs (5 * m + 3)) rfl rfl (mm_bd (by omega) (by omega)) (by rw [mm_cl (by omega)]) ?_
      refine mm_T.iv rfl rfl rfl rfl hO rfl E2 ?_
      refine mm_T.s rfl rfl rfl (fun _ => rfl) ?_
      refine mm_T.s rfl rfl rfl (fun _ => rfl) ?_
      refine mm_T.s rfl rfl rfl (fun _ => rfl) ?_
      refine mm_T.s rfl rfl rfl (fun _ => rfl) ?_
      exact K _ _ ⟨_, x_5s m, hJ2, rfl⟩
    · obtain ⟨v1, v2, h1, h2, ⟨E1, fs2, hO⟩, E2, hJ2, hv⟩ := j_put hJ (xs (5 * m + 1)) (xs (5 * m + 2)) (xs (5 * m + 3))
      refine mm_T.s rfl rfl rfl (fun _ => rfl) ?_
      refine mm_T.s rfl rfl rfl (fun _ => rfl) ?_
      refine mm_T.s rfl rfl rfl (fun _ => rfl) ?_
      refine mm_T.s rfl rfl rfl (fun _ => rfl) ?_
      refine mm_T.s rfl rfl rfl (fun _ => rfl) ?_
      refine mm_T.s rfl rfl rfl (fun _ => rfl) ?_
      refine mm_T.ti _ (nI_add (5 * m) 1) ?_
      refine mm_T.xa (v := xs (5 * m + 1)) rfl rfl (mm_bd (by omega) (by omega)) (by rw [mm_cl (by omega)]) ?_
      refine mm_T.s rfl rfl rfl (fun _ => rfl) ?_
      refine mm_T.s rfl rfl rfl (fun _ => rfl) ?_
      refine mm_T.s rfl rfl rfl (fun _ => rfl) ?_
      refine mm_T.s rfl rfl rfl (fun _ => rfl) ?_
      refine mm_T.ti _ (nI_add (5 * m) 2) ?_
      refine mm_T.xa (v := xs (5 * m + 2)) rfl rfl (mm_bd (by omega) (by omega)) (by rw [mm_cl (by omega)]) ?_
      refine mm_T.s rfl rfl rfl (fun _ => rfl) ?_
      refine mm_T.s rfl rfl rfl (fun _ => rfl) ?_
      refine mm_T.s rfl rfl rfl (fun _ => rfl) ?_
      refine mm_T.s rfl rfl rfl (fun _ => rfl) ?_
      refine mm_T.ti _ (nI_add (5 * m) 3) ?_
      refine mm_T.xa (v := xs (5 * m + 3)) rfl rfl (mm_bd (by omega) (by omega)) (by rw [mm_cl (by omega)]) ?_
      refine mm_T.iv rfl rfl rfl rfl hX rfl E1 ?_
      refine mm_T.s rfl rfl rfl (fun _ => rfl) ?_
      refine mm_T.s rfl rfl rfl (fun _ => rfl) ?_
      refine mm_T.s rfl rfl rfl (fun _ => rfl) ?_
      refine mm_T.s rfl rfl rfl (fun _ => rfl) ?_
      refine mm_T.s rfl rfl rfl (fun _ => rfl) ?_
      refine mm_T.s rfl rfl rfl (fun _ => rfl) ?_
      refine mm_T.ti _ (nI_add (5 * m) 1) ?_
      refine mm_T.xa (v := xs (5 * m + 1)) rfl rfl (mm_bd (by omega) (by omega)) (by rw [mm_cl (by omega)]) ?_
      refine mm_T.s rfl rfl rfl (fun _ => rfl) ?_
      refine mm_T.s rfl rfl rfl (fun _ => rfl) ?_
      refine mm_T.s rfl rfl rfl (fun _ => rfl) ?_
      refine mm_T.s rfl rfl rfl (fun _ => rfl) ?_
      refine mm_T.ti _ (nI_add (5 * m) 2) ?_
      refine mm_T.xa (v := xs (5 * m + 2)) rfl rfl (mm_bd (by omega) (by omega)) (by rw [mm_cl (by omega)]) ?_
      refine mm_T.s rfl rfl rfl (fun _ => rfl) ?_
      refine mm_T.s rfl rfl rfl (fun _ => rfl) ?_
      refine mm_T.s rfl rfl rfl (fun _ => rfl) ?_
      refine mm_T.s rfl rfl rfl (fun _ => rfl) ?_
      refine mm_T.ti _ (nI_add (5 * m) 3) ?_
      refine mm_T.xa (v := xs (5 * m + 3)) rfl rfl (mm_bd (by omega) (by omega)) (by rw [mm_cl (by omega)]) ?_
      refine mm_T.iv rfl rfl rfl rfl hO rfl E2 ?_
      refine mm_T.s rfl rfl rfl (fun _ => rfl) ?_
      refine mm_T.s rfl rfl rfl (fun _ => rfl) ?_
      refine mm_T.s rfl rfl rfl (fun _ => rfl) ?_
      refine mm_T.s rfl rfl rfl (fun _ => rfl) ?_
      exact K _ _ ⟨_, x_5s m, hJ2, rfl⟩
    · obtain ⟨v1, v2, h1, h2, ⟨E1, fs2, hO⟩, E2, hJ2, hv⟩ := j_get hJ (xs (5 * m + 1)) (xs (5 * m + 2))
      refine mm_T.s rfl rfl rfl (fun _ => rfl) ?_
      refine mm_T.s rfl rfl rfl (fun _ => rfl) ?_
      refine mm_T.s rfl rfl rfl (fun _ => rfl) ?_
      refine mm_T.s rfl rfl rfl (fun _ => rfl) ?_
      refine mm_T.s rfl rfl rfl (fun _ => rfl) ?_
      refine mm_T.s rfl rfl rfl (fun _ => rfl) ?_
      refine mm_T.ti _ (nI_add (5 * m) 1) ?_
      refine mm_T.xa (v := xs (5 * m + 1)) rfl rfl (mm_bd (by omega) (by omega)) (by rw [mm_cl (by omega)]) ?_
      refine mm_T.s rfl rfl rfl (fun _ => rfl) ?_
      refine mm_T.s rfl rfl rfl (fun _ => rfl) ?_
      refine mm_T.s rfl rfl rfl (fun _ => rfl) ?_
      refine mm_T.s rfl rfl rfl (fun _ => rfl) ?_
      refine mm_T.ti _ (nI_add (5 * m) 2) ?_
      refine mm_T.xa (v := xs (5 * m + 2)) rfl rfl (mm_bd (by omega) (by omega)) (by rw [mm_cl (by omega)]) ?_
      refine mm_T.iv rfl rfl rfl rfl hX rfl E1 ?_
      refine mm_T.s rfl rfl rfl (fun _ => rfl) ?_
      refine mm_T.s rfl rfl rfl (fun _ => rfl) ?_
      refine mm_T.s rfl rfl rfl (fun _ => rfl) ?_
      refine mm_T.s rfl rfl rfl (fun _ => rfl) ?_
      refine mm_T.s rfl rfl rfl (fun _ => rfl) ?_
      refine mm_T.s rfl rfl rfl (fun _ => rfl) ?_
      refine mm_T.ti _ (nI_add (5 * m) 1) ?_
      refine mm_T.xa (v := xs (5 * m + 1)) rfl rfl (mm_bd (by omega) (by omega)) (by rw [mm_cl (by omega)]) ?_
      refine mm_T.s rfl rfl rfl (fun _ => rfl) ?_
      refine mm_T.s rfl rfl rfl (fun _ => rfl) ?_
      refine mm_T.s rfl rfl rfl (fun _ => rfl) ?_
      refine mm_T.s rfl rfl rfl (fun _ => rfl) ?_
      refine mm_T.ti _ (nI_add (5 * m) 2) ?_
      refine mm_T.xa (v := xs (5 * m + 2)) rfl rfl (mm_bd (by omega) (by omega)) (by rw [mm_cl (by omega)]) ?_
      refine mm_T.iv rfl rfl rfl rfl hO rfl E2 ?_
      refine mm_T.s rfl rfl rfl (fun _ => rfl) ?_
      refine mm_T.s rfl rfl rfl (fun _ => rfl) ?_
      refine mm_T.s rfl rfl rfl (fun _ => rfl) ?_
      refine mm_T.s rfl rfl rfl (fun _ => rfl) ?_
      exact K _ _ ⟨_, x_5s m, hJ2, rfl⟩
    · obtain ⟨v1, v2, h1, h2, ⟨E1, fs2, hO⟩, E2, hJ2, hv⟩ := j_boundary hJ (xs (5 * m + 1)) (xs (5 * m + 2))
      refine mm_T.s rfl rfl rfl (fun _ => rfl) ?_
      refine mm_T.s rfl rfl rfl (fun _ => rfl) ?_
      refine mm_T.s rfl rfl rfl (fun _ => rfl) ?_
      refine mm_T.s rfl rfl rfl (fun _ => rfl) ?_
      refine mm_T.s rfl rfl rfl (fun _ => rfl) ?_
      refine mm_T.s rfl rfl rfl (fun _ => rfl) ?_
      refine mm_T.ti _ (nI_add (5 * m) 1) ?_
      refine mm_T.xa (v := xs (5 * m + 1)) rfl rfl (mm_bd (by omega) (by omega)) (by rw [mm_cl (by omega)]) ?_
      refine mm_T.s rfl rfl rfl (fun _ => rfl) ?_
      refine mm_T.s rfl rfl rfl (fun _ => rfl) ?_
      refine mm_T.s rfl rfl rfl (fun _ => rfl) ?_
      refine mm_T.s rfl rfl rfl (fun _ => rfl) ?_
      refine mm_T.ti _ (nI_add (5 * m) 2) ?_
      refine mm_T.xa (v := xs (5 * m + 2)) rfl rfl (mm_bd (by omega) (by omega)) (by rw [mm_cl (by omega)]) ?_
      refine mm_T.iv rfl rfl rfl rfl hX rfl E1 ?_
      refine mm_T.s rfl rfl rfl (fun _ => rfl) ?_
      refine mm_T.s rfl rfl rfl (fun _ => rfl) ?_
      refine mm_T.s rfl rfl rfl (fun _ => rfl) ?_
      refine mm_T.s rfl rfl rfl (fun _ => rfl) ?_
      refine mm_T.s rfl rfl rfl (fun _ => rfl) ?_
      refine mm_T.s rfl rfl rfl (fun _ => rfl) ?_
      refine mm_T.ti _ (nI_add (5 * m) 1) ?_
      refine mm_T.xa (v := xs (5 * m + 1)) rfl rfl (mm_bd (by omega) (by omega)) (by rw [mm_cl (by omega)]) ?_
      refine mm_T.s rfl rfl rfl (fun _ => rfl) ?_
      refine mm_T.s rfl rfl rfl (fun _ => rfl) ?_
      refine mm_T.s rfl rfl rfl (fun _ => rfl) ?_
      refine mm_T.s rfl rfl rfl (fun _ => rfl) ?_
      refine mm_T.ti _ (nI_add (5 * m) 2) ?_
      refine mm_T.xa (v := xs (5 * m + 2)) rfl rfl (mm_bd (by omega) (by omega)) (by rw [mm_cl (by omega)]) ?_
      refine mm_T.iv rfl rfl rfl rfl hO rfl E2 ?_
      refine mm_T.s rfl rfl rfl (fun _ => rfl) ?_
      refine mm_T.s rfl rfl rfl (fun _ => rfl) ?_
      refine mm_T.s rfl rfl rfl (fun _ => rfl) ?_
      refine mm_T.s rfl rfl rfl (fun _ => rfl) ?_
      exact K _ _ ⟨_, x_5s m, hJ2, rfl⟩
    · obtain ⟨v1, v2, h1, h2, ⟨E1, fs2, hO⟩, E2, hJ2, hv⟩ := j_order hJ (xs (5 * m + 1)) (xs (5 * m + 2))
      refine mm_T.s rfl rfl rfl (fun _ => rfl) ?_
      refine mm_T.s rfl rfl rfl (fun _ => rfl) ?_
      refine mm_T.s rfl rfl rfl (fun _ => rfl) ?_
      refine mm_T.s rfl rfl rfl (fun _ => rfl) ?_
      refine mm_T.s rfl rfl rfl (fun _ => rfl) ?_
      refine mm_T.s rfl rfl rfl (fun _ => rfl) ?_
      refine mm_T.ti _ (nI_add (5 * m) 1) ?_
      refine mm_T.xa (v := xs (5 * m + 1)) rfl rfl (mm_bd (by omega) (by omega)) (by rw [mm_cl (by omega)]) ?_
      refine mm_T.s rfl rfl rfl (fun _ => rfl) ?_
      refine mm_T.s rfl rfl rfl (fun _ => rfl) ?_
      refine mm_T.s rfl rfl rfl (fun _ => rfl) ?_
      refine mm_T.s rfl rfl rfl (fun _ => rfl) ?_
      refine mm_T.ti _ (nI_add (5 * m) 2) ?_
      refine mm_T.xa (v := xs (5 * m + 2)) rfl rfl (mm_bd (by omega) (by omega)) (by rw [mm_cl (by omega)]) ?_
      refine mm_T.iv rfl rfl rfl rfl hX rfl E1 ?_
      refine mm_T.s rfl rfl rfl (fun _ => rfl) ?_
      refine mm_T.s rfl rfl rfl (fun _ => rfl) ?_
      refine mm_T.s rfl rfl rfl (fun _ => rfl) ?_
      refine mm_T.s rfl rfl rfl (fun _ => rfl) ?_
      refine mm_T.s rfl rfl rfl (fun _ => rfl) ?_
      refine mm_T.s rfl rfl rfl (fun _ => rfl) ?_
      refine mm_T.ti _ (nI_add (5 * m) 1) ?_
      refine mm_T.xa (v := xs (5 * m + 1)) rfl rfl (mm_bd (by omega) (by omega)) (by rw [mm_cl (by omega)]) ?_
      refine mm_T.s rfl rfl rfl (fun _ => rfl) ?_
      refine mm_T.s rfl rfl rfl (fun _ => rfl) ?_
      refine mm_T.s rfl rfl rfl (fun _ => rfl) ?_
      refine mm_T.s rfl rfl rfl (fun _ => rfl) ?_
      refine mm_T.ti _ (nI_add (5 * m) 2) ?_
      refine mm_T.xa (v := xs (5 * m + 2)) rfl rfl (mm_bd (by omega) (by omega)) (by rw [mm_cl (by omega)]) ?_
      refine mm_T.iv rfl rfl rfl rfl hO rfl E2 ?_
      refine mm_T.s rfl rfl rfl (fun _ => rfl) ?_
      refine mm_T.s rfl rfl rfl (fun _ => rfl) ?_
      refine mm_T.s rfl rfl rfl (fun _ => rfl) ?_
      refine mm_T.s rfl rfl rfl (fun _ => rfl) ?_
      exact K _ _ ⟨_, x_5s m, hJ2, rfl⟩
    · obtain ⟨v1, v2, h1, h2, ⟨E1, fs2, hO⟩, E2, hJ2, hv⟩ := j_map hJ (xs (5 * m + 1)) (xs (5 * m + 2))
      refine mm_T.s rfl rfl rfl (fun _ => rfl) ?_
      refine mm_T.s rfl rfl rfl (fun _ => rfl) ?_
      refine mm_T.s rfl rfl rfl (fun _ => rfl) ?_
      refine mm_T.s rfl rfl rfl (fun _ => rfl) ?_
      refine mm_T.s rfl rfl rfl (fun _ => rfl) ?_
      refine mm_T.s rfl rfl rfl (fun _ => rfl) ?_
      refine mm_T.ti _ (nI_add (5 * m) 1) ?_
      refine mm_T.xa (v := xs (5 * m + 1)) rfl rfl (mm_bd (by omega) (by omega)) (by rw [mm_cl (by omega)]) ?_
      refine mm_T.s rfl rfl rfl (fun _ => rfl) ?_
      refine mm_T.s rfl rfl rfl (fun _ => rfl) ?_
      refine mm_T.s rfl rfl rfl (fun _ => rfl) ?_
      refine mm_T.s rfl rfl rfl (fun _ => rfl) ?_
      refine mm_T.ti _ (nI_add (5 * m) 2) ?_
      refine mm_T.xa (v := xs (5 * m + 2)) rfl rfl (mm_bd (by omega) (by omega)) (by rw [mm_cl (by omega)]) ?_
      refine mm_T.iv rfl rfl rfl rfl hX rfl E1 ?_
      refine mm_T.s rfl rfl rfl (fun _ => rfl) ?_
      refine mm_T.s rfl rfl rfl (fun _ => rfl) ?_
      refine mm_T.s rfl rfl rfl (fun _ => rfl) ?_
      refine mm_T.s rfl rfl rfl (fun _ => rfl) ?_
      refine mm_T.s rfl rfl rfl (fun _ => rfl) ?_
      refine mm_T.s rfl rfl rfl (fun _ => rfl) ?_
      refine mm_T.ti _ (nI_add (5 * m) 1) ?_
      refine mm_T.xa (v := xs (5 * m + 1)) rfl rfl (mm_bd (by omega) (by omega)) (by rw [mm_cl (by omega)]) ?_
      refine mm_T.s rfl rfl rfl (fun _ => rfl) ?_
      refine mm_T.s rfl rfl rfl (fun _ => rfl) ?_
      refine mm_T.s rfl rfl rfl (fun _ => rfl) ?_
      refine mm_T.s rfl rfl rfl (fun _ => rfl) ?_
      refine mm_T.ti _ (nI_add (5 * m) 2) ?_
      refine mm_T.xa (v := xs (5 * m + 2)) rfl rfl (mm_bd (by omega) (by omega)) (by rw [mm_cl (by omega)]) ?_
      refine mm_T.iv rfl rfl rfl rfl hO rfl E2 ?_
      refine mm_T.s rfl rfl rfl (fun _ => rfl) ?_
      refine mm_T.s rfl rfl rfl (fun _ => rfl) ?_
      refine mm_T.s rfl rfl rfl (fun _ => rfl) ?_
      refine mm_T.s rfl rfl rfl (fun _ => rfl) ?_
      exact K _ _ ⟨_, x_5s m, hJ2, rfl⟩
    · obtain ⟨v1, v2, h1, h2, ⟨E1, fs2, hO⟩, E2, hJ2, hv⟩ := j_simplicial hJ 
      refine mm_T.s rfl rfl rfl (fun _ => rfl) ?_
      refine mm_T.s rfl rfl rfl (fun _ => rfl) ?_
      refine mm_T.iv rfl rfl rfl rfl hX rfl E1 ?_
      refine mm_T.s rfl rfl rfl (fun _ => rfl) ?_
      refine mm_T.s rfl rfl rfl (fun _ => rfl) ?_
      refine mm_T.iv rfl rfl rfl rfl hO rfl E2 ?_
      refine mm_T.s rfl rfl rfl (fun _ => rfl) ?_
      refine mm_T.s rfl rfl rfl (fun _ => rfl) ?_
      refine mm_T.s rfl rfl rfl (fun _ => rfl) ?_
      refine mm_T.s rfl rfl rfl (fun _ => rfl) ?_
      exact K _ _ ⟨_, x_5s m, hJ2, rfl⟩
    · obtain ⟨v1, v2, h1, h2, ⟨E1, fs2, hO⟩, E2, hJ2, hv⟩ := j_image hJ (xs (5 * m + 1))
      refine mm_T.s rfl rfl rfl (fun _ => rfl) ?_
      refine mm_T.s rfl rfl rfl (fun _ => rfl) ?_
      refine mm_T.s rfl rfl rfl (fun _ => rfl) ?_
      refine mm_T.s rfl rfl rfl (fun _ => rfl) ?_
      refine mm_T.s rfl rfl rfl (fun _ => rfl) ?_
      refine mm_T.s rfl rfl rfl (fun _ => rfl) ?_
      refine mm_T.ti _ (nI_add (5 * m) 1) ?_
      refine mm_T.xa (v := xs (5 * m + 1)) rfl rfl (mm_bd (by omega) (by omega)) (by rw [mm_cl (by omega)]) ?_
      refine mm_T.iv rfl rfl rfl rfl hX rfl E1 ?_
      refine mm_T.s rfl rfl rfl (fun _ => rfl) ?_
      refine mm_T.s rfl rfl rfl (fun _ => rfl) ?_
      refine mm_T.s rfl rfl rfl (fun _ => rfl) ?_
      refine mm_T.s rfl rfl rfl (fun _ => rfl) ?_
      refine mm_T.s rfl rfl rfl (fun _ => rfl) ?_
      refine mm_T.ti _ (nI_add (5 * m) 1) ?_
      refine mm_T.xa (v := xs (5 * m + 1)) rfl rfl (mm_bd (by omega) (by omega)) (by rw [mm_cl (by omega)]) ?_
      refine mm_T.iv rfl rfl rfl rfl hO rfl E2 ?_
      refine mm_T.s rfl rfl rfl (fun _ => if_pos (hv trivial)) ?_
      refine mm_T.s rfl rfl rfl (fun _ => rfl) ?_
      refine mm_T.s rfl rfl rfl (fun _ => rfl) ?_
      exact K _ _ ⟨_, x_5s m, hJ2, rfl⟩
    · obtain ⟨v1, v2, h1, h2, ⟨E1, fs2, hO⟩, E2, hJ2, hv⟩ := j_rank hJ (xs (5 * m + 1))
      refine mm_T.s rfl rfl rfl (fun _ => rfl) ?_
      refine mm_T.s rfl rfl rfl (fun _ => rfl) ?_
      refine mm_T.s rfl rfl rfl (fun _ => rfl) ?_
      refine mm_T.s rfl rfl rfl (fun _ => rfl) ?_
      refine mm_T.s rfl rfl rfl (fun _ => rfl) ?_
      refine mm_T.s rfl rfl rfl (fun _ => rfl) ?_
      refine mm_T.ti _ (nI_add (5 * m) 1) ?_
      refine mm_T.xa (v := xs (5 * m + 1)) rfl rfl (mm_bd (by omega) (by omega)) (by rw [mm_cl (by omega)]) ?_
      refine mm_T.iv rfl rfl rfl rfl hX rfl E1 ?_
      refine mm_T.s rfl rfl rfl (fun _ => rfl) ?_
      refine mm_T.s rfl rfl rfl (fun _ => rfl) ?_
      refine mm_T.s rfl rfl rfl (fun _ => rfl) ?_
      refine mm_T.s rfl rfl rfl (fun _ => rfl) ?_
      refine mm_T.s rfl rfl rfl (fun _ => rfl) ?_
      refine mm_T.s rfl rfl rfl (fun _ => rfl) ?_
      refine mm_T.ti _ (nI_add (5 * m) 1) ?_
      refine mm_T.xa (v := xs (5 * m + 1)) rfl rfl (mm_bd (by omega) (by omega)) (by rw [mm_cl (by omega)]) ?_
      refine mm_T.iv rfl rfl rfl rfl hO rfl E2 ?_
      refine mm_T.s rfl rfl rfl (fun _ => rfl) ?_
      refine mm_T.s rfl rfl rfl (fun _ => rfl) ?_
      refine mm_T.s rfl rfl rfl (fun _ => rfl) ?_
      refine mm_T.s rfl rfl rfl (fun _ => rfl) ?_
      exact K _ _ ⟨_, x_5s m, hJ2, rfl⟩
    · obtain ⟨v1, v2, h1, h2, ⟨E1, fs2, hO⟩, E2, hJ2, hv⟩ := j_products hJ (xs (5 * m + 1))
      refine mm_T.s rfl rfl rfl (fun _ => rfl) ?_
      refine mm_T.s rfl rfl rfl (fun _ => rfl) ?_
      refine mm_T.s rfl rfl rfl (fun _ => rfl) ?_
      refine mm_T.s rfl rfl rfl (fun _ => rfl) ?_
      refine mm_T.s rfl rfl rfl (fun _ => rfl) ?_
      refine mm_T.s rfl rfl rfl (fun _ => rfl) ?_
      refine mm_T.ti _ (nI_add (5 * m) 1) ?_
      refine mm_T.xa (v := xs (5 * m + 1)) rfl rfl (mm_bd (by omega) (by omega)) (by rw [mm_cl (by omega)]) ?_
      refine mm_T.iv rfl rfl rfl rfl hX rfl E1 ?_
      refine mm_T.s rfl rfl rfl (fun _ => rfl) ?_
      refine mm_T.s rfl rfl rfl (fun _ => rfl) ?_
      refine mm_T.s rfl rfl rfl (fun _ => rfl) ?_
      refine mm_T.s rfl rfl rfl (fun _ => rfl) ?_
      refine mm_T.s rfl rfl rfl (fun _ => rfl) ?_
      refine mm_T.s rfl rfl rfl (fun _ => rfl) ?_
      refine mm_T.ti _ (nI_add (5 * m) 1) ?_
      refine mm_T.xa (v := xs (5 * m + 1)) rfl rfl (mm_bd (by omega) (by omega)) (by rw [mm_cl (by omega)]) ?_
      refine mm_T.iv rfl rfl rfl rfl hO rfl E2 ?_
      refine mm_T.s rfl rfl rfl (fun _ => rfl) ?_
      refine mm_T.s rfl rfl rfl (fun _ => rfl) ?_
      refine mm_T.s rfl rfl rfl (fun _ => rfl) ?_
      refine mm_T.s rfl rfl rfl (fun _ => rfl) ?_
      exact K _ _ ⟨_, x_5s m, hJ2, rfl⟩
    · refine mm_T.s rfl rfl rfl (fun _ => if_pos (Or.inr (by rw [nI_toInt (by omega)]; omega))) ?_
      refine mm_T.s rfl rfl rfl (fun _ => rfl) ?_
      refine mm_T.s rfl rfl rfl (fun _ => rfl) ?_
      exact K _ _ ⟨_, x_5s m, hJ, rfl⟩
  · rintro _ h ⟨x3, rfl, hJ, rfl⟩
    refine mm_T.s rfl rfl rfl (fun _ => rfl) ?_
    refine mm_T.s rfl rfl rfl (fun _ => rfl) ?_
    refine mm_T.s rfl rfl rfl (fun _ => rfl) ?_
    refine mm_T.s rfl rfl rfl (fun _ => rfl) ?_
    refine mm_T.s rfl rfl rfl (fun _ => rfl) ?_
    refine mm_T.s rfl rfl rfl (fun _ => if_pos (x_lend hL)) ?_
    refine mm_T.s rfl rfl rfl (fun _ => rfl) ?_
    exact mm_T.ret rfl rfl rfl (rfl)
theorem x_law {L : Nat} {xs : Nat → Int32} (hL : L ≤ 2560) : ∃ h1 : mm_H, mm_E kM (some (L, xs)) 116 18 [some (.retAddr 0), some (.ref 0), some (.ref 25), some (.int 0)] [] k_h0 (some (.int 1), h1) := by
  obtain ⟨v, h1, e, rfl⟩ := x_lawT hL (xs := xs)
  exact ⟨h1, e⟩
