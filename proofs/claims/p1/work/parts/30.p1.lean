theorem x_256 {v : Int32} : 255 < v ↔ 256 ≤ v := by
  rw [Int32.le_iff_toInt_le, Int32.lt_iff_toInt_lt]
  have h3 : (255 : Int32).toInt = 255 := rfl
  have h4 : (256 : Int32).toInt = 256 := rfl
  omega
theorem x_app {T M : mm_H} (hT : T.length = 25) (j : Nat) : mm_nth (T ++ M) (25 + j) = mm_nth M j := by
  rw [mm_nth_eq, mm_nth_eq, List.getElem?_append_right (by omega), hT]
  congr 1
  omega
def x_M0 : mm_H := [x_mo 0 0 0 0, x_ha (fun _ => 0), x_it 512 (fun _ => 0), x_it 8 (x_idn 8), x_lg 2304 (fun _ => 0), x_lg 2304 (fun _ => 0), x_lg 48 (fun _ => 0), x_it 24 (fun _ => 0), x_it 24 (fun _ => 0), x_it 24 (fun _ => 0), x_it 24 (fun _ => 0), x_it 24 (fun _ => 0)]
theorem x_M0_e : x_eM x_M0 := fun T hT => ⟨0, (fun _ => 0), (fun _ => 0), x_idn 8, (fun _ => 0), (fun _ => 0), (fun _ => 0), (fun _ => 0), (fun _ => 0), (fun _ => 0), (fun _ => 0), (fun _ => 0), x_app hT 0, x_app hT 1, fun _ _ => rfl, x_app hT 2, x_app hT 3, x_app hT 4, x_app hT 5, x_app hT 6, x_app hT 7, x_app hT 8, x_app hT 9, x_app hT 10, x_app hT 11⟩
theorem x_k0 : k_h0 = ([.inr (3, [.ref 1, .ref 7, .ref 13, .ref 14, .ref 21, .ref 23, .ref 24]), .inr (0, [.ref 2, .ref 3, .ref 4, .ref 5, .ref 6]), x_it 256 x_P0, x_it 256 (fun _ => 0), x_it 4 (fun _ => 0), x_it 96 (fun _ => 0), x_it 4 (fun _ => 0), .inr (0, [.ref 8, .ref 9, .ref 10, .ref 11, .ref 12]), x_it 256 x_P0, x_it 256 (fun _ => 0), x_it 4 (fun _ => 0), x_it 96 (fun _ => 0), x_it 4 (fun _ => 0), x_it 8 (x_idn 8), .inr (1, [.ref 15, .ref 16, .ref 17, .ref 18, .ref 19, .ref 20, .int 0, .int 0, .int 2147483647, .long 0, .int 0]), x_it 2304 (fun _ => 0), x_it 2304 (fun _ => 0), x_it 31 (fun _ => 0), x_it 48 (fun _ => 0), x_it 10 (fun _ => 0), x_it 10 (fun _ => 0), .inr (2, [.ref 22]), x_lg 24 (fun _ => 0), x_it 24 (fun _ => 0), x_it 24 (fun _ => 0)] ++ x_M0 : mm_H) := rfl
theorem x_k0_e : x_e0 k_h0 0 0 0 0 := by
  rw [x_k0]
  exact z_fresh x_M0_e
theorem x_cnI {c : Int32} : (c = 0 ∨ c = 1) → ∃ n : Nat, n < 2 ∧ c = nI n := x_c01
/-- add, first of all -/
theorem x_addE (c s : Int32) : ∃ r h1 h2, mm_EC kM 34 [.ref 0, .int c, .int s] k_h0 (some (.int r), h1) ∧ x_em h1 0 0 0 ∧ mm_EC kM 72 [.ref 25, .int c, .int s] h1 (some (.int r), h2) := by
  by_cases hv : (c = 0 ∨ c = 1) ∧ ¬ s < 1 ∧ ¬ 255 < s ∧ x_sz8 s 8 ≤ 4
  · obtain ⟨hc, h1, h2, h4⟩ := hv
    obtain ⟨j, hj, rfl⟩ := nI_of2 (x := s) (M := 255) (n := 255) rfl (fun q => h1 (Int32.lt_of_lt_of_le q (by decide))) (Int32.not_lt.mp h2)
    have hj1 : 1 ≤ j := by
      rcases Nat.eq_zero_or_pos j with e | e
      · subst e
        exact absurd (by decide) h1
      · exact e
    have hj2 : j < 256 := by omega
    have hok := x_good hj2 h4
    have hb4 : x_bc (nI j) ≤ 4 := by rw [x_bcz j hj2]; exact h4
    have ha : ∃ h1, mm_EC kM 34 [.ref 0, .int c, .int (nI j)] k_h0 (some (.int (x_mr j j)), h1) ∧ x_em h1 0 0 0 := by
      rw [x_k0]
      rcases hc with rfl | rfl
      · exact z_add0 x_M0_e hj1 hj2 hb4 hok
      · exact z_add1 x_M0_e hj1 hj2 hb4 hok
    obtain ⟨ha1, E1, hE1⟩ := ha
    obtain ⟨n, hn, rfl⟩ := x_c01 hc
    obtain ⟨hb1, E2⟩ := y_add hE1 hn hj1 hj2 h4 hok.2.2.2.2.2.2
    exact ⟨_, ha1, hb1, E1, hE1, E2⟩
  · refine ⟨-1, k_h0, k_h0, z_addB x_k0_e (fun q => hv ⟨q.1, q.2.1, fun z => q.2.2.1 (x_256.mp z), ?_⟩), x_e0_em x_k0_e, y_addB hv⟩
    obtain ⟨hc, h1, h2, h4⟩ := q
    obtain ⟨j, hj, rfl⟩ := nI_of2 (x := s) (M := 255) (n := 255) rfl (fun q => h1 (Int32.lt_of_lt_of_le q (by decide))) (Int32.not_lt.mp (fun z => h2 (x_256.mp z)))
    rw [← x_bcz j (by omega)]
    exact h4
set_option maxRecDepth 100000 in
theorem x_fin {xs : Nat → Int32} {h : mm_H} {i0 : Int32} (hi : i0 = 0) : mm_E kM (some (5, xs)) 116 704 [some (.retAddr 0), some (.ref 0), some (.ref 25), some (.int i0)] [] h (some (.int 1), h) := by
  subst hi
  refine mm_E.s rfl rfl rfl (fun _ => rfl) ?_
  refine mm_E.s rfl rfl rfl (fun _ => rfl) ?_
  refine mm_E.s rfl rfl rfl (fun _ => rfl) ?_
  refine mm_E.s rfl rfl rfl (fun _ => rfl) ?_
  refine mm_E.s rfl rfl rfl (fun _ => rfl) ?_
  refine mm_E.s rfl rfl rfl (fun _ => rfl) ?_
  refine mm_E.s rfl rfl rfl (fun _ => rfl) ?_
  refine mm_E.s rfl rfl rfl (fun _ => rfl) ?_
  refine mm_E.s rfl rfl rfl (fun _ => rfl) ?_
  exact mm_E.ret rfl rfl rfl

set_option maxHeartbeats 8000000 in
set_option maxRecDepth 100000 in
theorem x_law5 {xs : Nat → Int32} : ∃ h1 : mm_H, mm_E kM (some (5, xs)) 116 18 [some (.retAddr 0), some (.ref 0), some (.ref 25), some (.int 0)] [] k_h0 (some (.int 1), h1) := by
  obtain ⟨j, hj, ej⟩ := pk_andE (xs 0) (m := 31) 5 rfl
  have pre : ∀ r, mm_E kM (some (5, xs)) 116 32 [some (.retAddr 0), some (.ref 0), some (.ref 25), some (.int 0)] [.int (nI j)] k_h0 r → mm_E kM (some (5, xs)) 116 18 [some (.retAddr 0), some (.ref 0), some (.ref 25), some (.int 0)] [] k_h0 r := by
    intro r hr
    refine mm_E.s rfl rfl rfl (fun _ => rfl) ?_
    refine mm_E.s rfl rfl rfl (fun _ => rfl) ?_
    refine mm_E.s rfl rfl rfl (fun _ => rfl) ?_
    refine mm_E.s rfl rfl rfl (fun _ => rfl) ?_
    refine mm_E.s rfl rfl rfl (fun _ => rfl) ?_
    refine mm_E.s rfl rfl rfl (fun _ => rfl) ?_
    refine mm_E.s rfl rfl rfl (fun _ => rfl) ?_
    refine mm_E.s rfl rfl rfl (fun _ => rfl) ?_
    refine mm_E.xa (v := xs 0) rfl rfl (by decide) rfl ?_
    refine mm_E.s rfl rfl rfl (fun _ => rfl) ?_
    refine mm_E.s rfl rfl rfl (fun _ => rfl) ?_
    refine mm_E.ti (nI j) ej ?_
    exact hr
  by_cases h17 : 17 < j
  · refine ⟨k_h0, pre _ ?_⟩
    refine mm_E.s rfl rfl rfl (fun _ => if_pos (Or.inr (by rw [nI_toInt (by omega)]; omega))) ?_
    exact x_fin rfl
  by_cases h0 : j = 0
  · subst h0
    obtain ⟨r, h1, h2, E1, hE1, E2⟩ := x_addE (xs 1) (xs 2)
    obtain ⟨trO, hO25⟩ := y_o hE1
    refine ⟨h2, ?_⟩
    refine pre _ ?_
    refine mm_E.s rfl rfl rfl (fun _ => rfl) ?_
    refine mm_E.s rfl rfl rfl (fun _ => rfl) ?_
    refine mm_E.s rfl rfl rfl (fun _ => rfl) ?_
    refine mm_E.s rfl rfl rfl (fun _ => rfl) ?_
    refine mm_E.s rfl rfl rfl (fun _ => rfl) ?_
    refine mm_E.s rfl rfl rfl (fun _ => rfl) ?_
    refine mm_E.xa (v := xs 1) rfl rfl (by decide) rfl ?_
    refine mm_E.s rfl rfl rfl (fun _ => rfl) ?_
    refine mm_E.s rfl rfl rfl (fun _ => rfl) ?_
    refine mm_E.s rfl rfl rfl (fun _ => rfl) ?_
    refine mm_E.s rfl rfl rfl (fun _ => rfl) ?_
    refine mm_E.xa (v := xs 2) rfl rfl (by decide) rfl ?_
    refine mm_E.iv rfl rfl rfl rfl rfl rfl E1 ?_
    refine mm_E.s rfl rfl rfl (fun _ => rfl) ?_
    refine mm_E.s rfl rfl rfl (fun _ => rfl) ?_
    refine mm_E.s rfl rfl rfl (fun _ => rfl) ?_
    refine mm_E.s rfl rfl rfl (fun _ => rfl) ?_
    refine mm_E.s rfl rfl rfl (fun _ => rfl) ?_
    refine mm_E.xa (v := xs 1) rfl rfl (by decide) rfl ?_
    refine mm_E.s rfl rfl rfl (fun _ => rfl) ?_
    refine mm_E.s rfl rfl rfl (fun _ => rfl) ?_
    refine mm_E.s rfl rfl rfl (fun _ => rfl) ?_
    refine mm_E.s rfl rfl rfl (fun _ => rfl) ?_
    refine mm_E.xa (v := xs 2) rfl rfl (by decide) rfl ?_
    refine mm_E.iv rfl rfl rfl rfl hO25 rfl E2 ?_
    first | refine mm_E.s rfl rfl rfl (fun _ => if_pos rfl) ?_ | refine mm_E.s rfl rfl rfl (fun _ => rfl) ?_
    exact x_fin rfl
  by_cases h1 : j = 1
  · subst h1
    obtain ⟨h1, E1, hE1⟩ := z_clear x_k0_e (xs 1)
    obtain ⟨h2, E2⟩ := y_clear hE1 (xs 1)
    obtain ⟨trO, hO25⟩ := y_o hE1
    refine ⟨h2, ?_⟩
    refine pre _ ?_
    refine mm_E.s rfl rfl rfl (fun _ => rfl) ?_
    refine mm_E.s rfl rfl rfl (fun _ => rfl) ?_
    refine mm_E.s rfl rfl rfl (fun _ => rfl) ?_
    refine mm_E.s rfl rfl rfl (fun _ => rfl) ?_
    refine mm_E.s rfl rfl rfl (fun _ => rfl) ?_
    refine mm_E.s rfl rfl rfl (fun _ => rfl) ?_
    refine mm_E.xa (v := xs 1) rfl rfl (by decide) rfl ?_
    refine mm_E.iv rfl rfl rfl rfl rfl rfl E1 ?_
    refine mm_E.s rfl rfl rfl (fun _ => rfl) ?_
    refine mm_E.s rfl rfl rfl (fun _ => rfl) ?_
    refine mm_E.s rfl rfl rfl (fun _ => rfl) ?_
    refine mm_E.s rfl rfl rfl (fun _ => rfl) ?_
    refine mm_E.s rfl rfl rfl (fun _ => rfl) ?_
    refine mm_E.xa (v := xs 1) rfl rfl (by decide) rfl ?_
    refine mm_E.iv rfl rfl rfl rfl hO25 rfl E2 ?_
    first | refine mm_E.s rfl rfl rfl (fun _ => if_pos rfl) ?_ | refine mm_E.s rfl rfl rfl (fun _ => rfl) ?_
    exact x_fin rfl
  by_cases h2 : j = 2
  · subst h2
    obtain ⟨h1, E1, hE1⟩ := z_count x_k0_e (xs 1) (xs 2)
    obtain ⟨tr, has, hO, hH, hz⟩ := y_z hE1
    have E2 := x_count0 hO hH hz (xs 1) (xs 2)
    obtain ⟨trO, hO25⟩ := y_o hE1
    refine ⟨h1, ?_⟩
    refine pre _ ?_
    refine mm_E.s rfl rfl rfl (fun _ => rfl) ?_
    refine mm_E.s rfl rfl rfl (fun _ => rfl) ?_
    refine mm_E.s rfl rfl rfl (fun _ => rfl) ?_
    refine mm_E.s rfl rfl rfl (fun _ => rfl) ?_
    refine mm_E.s rfl rfl rfl (fun _ => rfl) ?_
    refine mm_E.s rfl rfl rfl (fun _ => rfl) ?_
    refine mm_E.xa (v := xs 1) rfl rfl (by decide) rfl ?_
    refine mm_E.s rfl rfl rfl (fun _ => rfl) ?_
    refine mm_E.s rfl rfl rfl (fun _ => rfl) ?_
    refine mm_E.s rfl rfl rfl (fun _ => rfl) ?_
    refine mm_E.s rfl rfl rfl (fun _ => rfl) ?_
    refine mm_E.xa (v := xs 2) rfl rfl (by decide) rfl ?_
    refine mm_E.iv rfl rfl rfl rfl rfl rfl E1 ?_
    refine mm_E.s rfl rfl rfl (fun _ => rfl) ?_
    refine mm_E.s rfl rfl rfl (fun _ => rfl) ?_
    refine mm_E.s rfl rfl rfl (fun _ => rfl) ?_
    refine mm_E.s rfl rfl rfl (fun _ => rfl) ?_
    refine mm_E.s rfl rfl rfl (fun _ => rfl) ?_
    refine mm_E.xa (v := xs 1) rfl rfl (by decide) rfl ?_
    refine mm_E.s rfl rfl rfl (fun _ => rfl) ?_
    refine mm_E.s rfl rfl rfl (fun _ => rfl) ?_
    refine mm_E.s rfl rfl rfl (fun _ => rfl) ?_
    refine mm_E.s rfl rfl rfl (fun _ => rfl) ?_
    refine mm_E.xa (v := xs 2) rfl rfl (by decide) rfl ?_
    refine mm_E.iv rfl rfl rfl rfl hO25 rfl E2 ?_
    first | refine mm_E.s rfl rfl rfl (fun _ => if_pos rfl) ?_ | refine mm_E.s rfl rfl rfl (fun _ => rfl) ?_
    exact x_fin rfl
  by_cases h3 : j = 3
  · subst h3
    obtain ⟨h1, E1, hE1⟩ := z_simplex x_k0_e (xs 1) (xs 2) (xs 3)
    obtain ⟨tr, has, hO, hH, hz⟩ := y_z hE1
    have E2 := x_simplex0 hO hH hz (xs 1) (xs 2) (xs 3)
    obtain ⟨trO, hO25⟩ := y_o hE1
    refine ⟨h1, ?_⟩
    refine pre _ ?_
    refine mm_E.s rfl rfl rfl (fun _ => rfl) ?_
    refine mm_E.s rfl rfl rfl (fun _ => rfl) ?_
    refine mm_E.s rfl rfl rfl (fun _ => rfl) ?_
    refine mm_E.s rfl rfl rfl (fun _ => rfl) ?_
    refine mm_E.s rfl rfl rfl (fun _ => rfl) ?_
    refine mm_E.s rfl rfl rfl (fun _ => rfl) ?_
    refine mm_E.xa (v := xs 1) rfl rfl (by decide) rfl ?_
    refine mm_E.s rfl rfl rfl (fun _ => rfl) ?_
    refine mm_E.s rfl rfl rfl (fun _ => rfl) ?_
    refine mm_E.s rfl rfl rfl (fun _ => rfl) ?_
    refine mm_E.s rfl rfl rfl (fun _ => rfl) ?_
    refine mm_E.xa (v := xs 2) rfl rfl (by decide) rfl ?_
    refine mm_E.s rfl rfl rfl (fun _ => rfl) ?_
    refine mm_E.s rfl rfl rfl (fun _ => rfl) ?_
    refine mm_E.s rfl rfl rfl (fun _ => rfl) ?_
    refine mm_E.s rfl rfl rfl (fun _ => rfl) ?_
    refine mm_E.xa (v := xs 3) rfl rfl (by decide) rfl ?_
    refine mm_E.iv rfl rfl rfl rfl rfl rfl E1 ?_
    refine mm_E.s rfl rfl rfl (fun _ => rfl) ?_
    refine mm_E.s rfl rfl rfl (fun _ => rfl) ?_
    refine mm_E.s rfl rfl rfl (fun _ => rfl) ?_
    refine mm_E.s rfl rfl rfl (fun _ => rfl) ?_
    refine mm_E.s rfl rfl rfl (fun _ => rfl) ?_
    refine mm_E.xa (v := xs 1) rfl rfl (by decide) rfl ?_
    refine mm_E.s rfl rfl rfl (fun _ => rfl) ?_
    refine mm_E.s rfl rfl rfl (fun _ => rfl) ?_
    refine mm_E.s rfl rfl rfl (fun _ => rfl) ?_
    refine mm_E.s rfl rfl rfl (fun _ => rfl) ?_
    refine mm_E.xa (v := xs 2) rfl rfl (by decide) rfl ?_
    refine mm_E.s rfl rfl rfl (fun _ => rfl) ?_
    refine mm_E.s rfl rfl rfl (fun _ => rfl) ?_
    refine mm_E.s rfl rfl rfl (fun _ => rfl) ?_
    refine mm_E.s rfl rfl rfl (fun _ => rfl) ?_
    refine mm_E.xa (v := xs 3) rfl rfl (by decide) rfl ?_
    refine mm_E.iv rfl rfl rfl rfl hO25 rfl E2 ?_
    first | refine mm_E.s rfl rfl rfl (fun _ => if_pos rfl) ?_ | refine mm_E.s rfl rfl rfl (fun _ => rfl) ?_
    exact x_fin rfl
  by_cases h4 : j = 4
  · subst h4
    obtain ⟨h1, E1, hE1⟩ := z_inc x_k0_e (xs 1) (xs 2) (xs 3) (xs 4)
    obtain ⟨tr, has, hO, hH, hz⟩ := y_z hE1
    have E2 := x_inc0 hO hH hz (xs 1) (xs 2) (xs 3) (xs 4)
    obtain ⟨trO, hO25⟩ := y_o hE1
    refine ⟨h1, ?_⟩
    refine pre _ ?_
    refine mm_E.s rfl rfl rfl (fun _ => rfl) ?_
    refine mm_E.s rfl rfl rfl (fun _ => rfl) ?_
    refine mm_E.s rfl rfl rfl (fun _ => rfl) ?_
    refine mm_E.s rfl rfl rfl (fun _ => rfl) ?_
    refine mm_E.s rfl rfl rfl (fun _ => rfl) ?_
    refine mm_E.s rfl rfl rfl (fun _ => rfl) ?_
    refine mm_E.xa (v := xs 1) rfl rfl (by decide) rfl ?_
    refine mm_E.s rfl rfl rfl (fun _ => rfl) ?_
    refine mm_E.s rfl rfl rfl (fun _ => rfl) ?_
    refine mm_E.s rfl rfl rfl (fun _ => rfl) ?_
    refine mm_E.s rfl rfl rfl (fun _ => rfl) ?_
    refine mm_E.xa (v := xs 2) rfl rfl (by decide) rfl ?_
    refine mm_E.s rfl rfl rfl (fun _ => rfl) ?_
    refine mm_E.s rfl rfl rfl (fun _ => rfl) ?_
    refine mm_E.s rfl rfl rfl (fun _ => rfl) ?_
    refine mm_E.s rfl rfl rfl (fun _ => rfl) ?_
    refine mm_E.xa (v := xs 3) rfl rfl (by decide) rfl ?_
    refine mm_E.s rfl rfl rfl (fun _ => rfl) ?_
    refine mm_E.s rfl rfl rfl (fun _ => rfl) ?_
    refine mm_E.s rfl rfl rfl (fun _ => rfl) ?_
    refine mm_E.s rfl rfl rfl (fun _ => rfl) ?_
    refine mm_E.xa (v := xs 4) rfl rfl (by decide) rfl ?_
    refine mm_E.iv rfl rfl rfl rfl rfl rfl E1 ?_
    refine mm_E.s rfl rfl rfl (fun _ => rfl) ?_
    refine mm_E.s rfl rfl rfl (fun _ => rfl) ?_
    refine mm_E.s rfl rfl rfl (fun _ => rfl) ?_
    refine mm_E.s rfl rfl rfl (fun _ => rfl) ?_
    refine mm_E.s rfl rfl rfl (fun _ => rfl) ?_
    refine mm_E.xa (v := xs 1) rfl rfl (by decide) rfl ?_
    refine mm_E.s rfl rfl rfl (fun _ => rfl) ?_
    refine mm_E.s rfl rfl rfl (fun _ => rfl) ?_
    refine mm_E.s rfl rfl rfl (fun _ => rfl) ?_
    refine mm_E.s rfl rfl rfl (fun _ => rfl) ?_
    refine mm_E.xa (v := xs 2) rfl rfl (by decide) rfl ?_
    refine mm_E.s rfl rfl rfl (fun _ => rfl) ?_
    refine mm_E.s rfl rfl rfl (fun _ => rfl) ?_
    refine mm_E.s rfl rfl rfl (fun _ => rfl) ?_
    refine mm_E.s rfl rfl rfl (fun _ => rfl) ?_
    refine mm_E.xa (v := xs 3) rfl rfl (by decide) rfl ?_
    refine mm_E.s rfl rfl rfl (fun _ => rfl) ?_
    refine mm_E.s rfl rfl rfl (fun _ => rfl) ?_
    refine mm_E.s rfl rfl rfl (fun _ => rfl) ?_
    refine mm_E.s rfl rfl rfl (fun _ => rfl) ?_
    refine mm_E.xa (v := xs 4) rfl rfl (by decide) rfl ?_
    refine mm_E.iv rfl rfl rfl rfl hO25 rfl E2 ?_
    first | refine mm_E.s rfl rfl rfl (fun _ => if_pos rfl) ?_ | refine mm_E.s rfl rfl rfl (fun _ => rfl) ?_
    exact x_fin rfl
  by_cases h5 : j = 5
  · subst h5
    obtain ⟨h1, E1, hE1⟩ := z_euler x_k0_e (xs 1)
    obtain ⟨tr, has, hO, hH, hz⟩ := y_z hE1
    have E2 := x_euler0 hO hH hz (xs 1)
    obtain ⟨trO, hO25⟩ := y_o hE1
    refine ⟨h1, ?_⟩
    refine pre _ ?_
    refine mm_E.s rfl rfl rfl (fun _ => rfl) ?_
    refine mm_E.s rfl rfl rfl (fun _ => rfl) ?_
    refine mm_E.s rfl rfl rfl (fun _ => rfl) ?_
    refine mm_E.s rfl rfl rfl (fun _ => rfl) ?_
    refine mm_E.s rfl rfl rfl (fun _ => rfl) ?_
    refine mm_E.s rfl rfl rfl (fun _ => rfl) ?_
    refine mm_E.xa (v := xs 1) rfl rfl (by decide) rfl ?_
    refine mm_E.iv rfl rfl rfl rfl rfl rfl E1 ?_
    refine mm_E.s rfl rfl rfl (fun _ => rfl) ?_
    refine mm_E.s rfl rfl rfl (fun _ => rfl) ?_
    refine mm_E.s rfl rfl rfl (fun _ => rfl) ?_
    refine mm_E.s rfl rfl rfl (fun _ => rfl) ?_
    refine mm_E.s rfl rfl rfl (fun _ => rfl) ?_
    refine mm_E.xa (v := xs 1) rfl rfl (by decide) rfl ?_
    refine mm_E.iv rfl rfl rfl rfl hO25 rfl E2 ?_
    first | refine mm_E.s rfl rfl rfl (fun _ => if_pos rfl) ?_ | refine mm_E.s rfl rfl rfl (fun _ => rfl) ?_
    exact x_fin rfl
  by_cases h6 : j = 6
  · subst h6
    obtain ⟨h1, E1, hE1⟩ := z_betti x_k0_e (xs 1) (xs 2)
    obtain ⟨h2, E2⟩ := y_betti hE1 (xs 1) (xs 2)
    obtain ⟨trO, hO25⟩ := y_o hE1
    refine ⟨h2, ?_⟩
    refine pre _ ?_
    refine mm_E.s rfl rfl rfl (fun _ => rfl) ?_
    refine mm_E.s rfl rfl rfl (fun _ => rfl) ?_
    refine mm_E.s rfl rfl rfl (fun _ => rfl) ?_
    refine mm_E.s rfl rfl rfl (fun _ => rfl) ?_
    refine mm_E.s rfl rfl rfl (fun _ => rfl) ?_
    refine mm_E.s rfl rfl rfl (fun _ => rfl) ?_
    refine mm_E.xa (v := xs 1) rfl rfl (by decide) rfl ?_
    refine mm_E.s rfl rfl rfl (fun _ => rfl) ?_
    refine mm_E.s rfl rfl rfl (fun _ => rfl) ?_
    refine mm_E.s rfl rfl rfl (fun _ => rfl) ?_
    refine mm_E.s rfl rfl rfl (fun _ => rfl) ?_
    refine mm_E.xa (v := xs 2) rfl rfl (by decide) rfl ?_
    refine mm_E.iv rfl rfl rfl rfl rfl rfl E1 ?_
    refine mm_E.s rfl rfl rfl (fun _ => rfl) ?_
    refine mm_E.s rfl rfl rfl (fun _ => rfl) ?_
    refine mm_E.s rfl rfl rfl (fun _ => rfl) ?_
    refine mm_E.s rfl rfl rfl (fun _ => rfl) ?_
    refine mm_E.s rfl rfl rfl (fun _ => rfl) ?_
    refine mm_E.xa (v := xs 1) rfl rfl (by decide) rfl ?_
    refine mm_E.s rfl rfl rfl (fun _ => rfl) ?_
    refine mm_E.s rfl rfl rfl (fun _ => rfl) ?_
    refine mm_E.s rfl rfl rfl (fun _ => rfl) ?_
    refine mm_E.s rfl rfl rfl (fun _ => rfl) ?_
    refine mm_E.xa (v := xs 2) rfl rfl (by decide) rfl ?_
    refine mm_E.iv rfl rfl rfl rfl hO25 rfl E2 ?_
    first | refine mm_E.s rfl rfl rfl (fun _ => if_pos rfl) ?_ | refine mm_E.s rfl rfl rfl (fun _ => rfl) ?_
    exact x_fin rfl
  by_cases h7 : j = 7
  · subst h7
    obtain ⟨h1, E1, hE1⟩ := z_torsion x_k0_e (xs 1) (xs 2) (xs 3)
    obtain ⟨h2, E2⟩ := y_torsion hE1 (xs 1) (xs 2) (xs 3)
    obtain ⟨trO, hO25⟩ := y_o hE1
    refine ⟨h2, ?_⟩
    refine pre _ ?_
    refine mm_E.s rfl rfl rfl (fun _ => rfl) ?_
    refine mm_E.s rfl rfl rfl (fun _ => rfl) ?_
    refine mm_E.s rfl rfl rfl (fun _ => rfl) ?_
    refine mm_E.s rfl rfl rfl (fun _ => rfl) ?_
    refine mm_E.s rfl rfl rfl (fun _ => rfl) ?_
    refine mm_E.s rfl rfl rfl (fun _ => rfl) ?_
    refine mm_E.xa (v := xs 1) rfl rfl (by decide) rfl ?_
    refine mm_E.s rfl rfl rfl (fun _ => rfl) ?_
    refine mm_E.s rfl rfl rfl (fun _ => rfl) ?_
    refine mm_E.s rfl rfl rfl (fun _ => rfl) ?_
    refine mm_E.s rfl rfl rfl (fun _ => rfl) ?_
    refine mm_E.xa (v := xs 2) rfl rfl (by decide) rfl ?_
    refine mm_E.s rfl rfl rfl (fun _ => rfl) ?_
    refine mm_E.s rfl rfl rfl (fun _ => rfl) ?_
    refine mm_E.s rfl rfl rfl (fun _ => rfl) ?_
    refine mm_E.s rfl rfl rfl (fun _ => rfl) ?_
    refine mm_E.xa (v := xs 3) rfl rfl (by decide) rfl ?_
    refine mm_E.iv rfl rfl rfl rfl rfl rfl E1 ?_
    refine mm_E.s rfl rfl rfl (fun _ => rfl) ?_
    refine mm_E.s rfl rfl rfl (fun _ => rfl) ?_
    refine mm_E.s rfl rfl rfl (fun _ => rfl) ?_
    refine mm_E.s rfl rfl rfl (fun _ => rfl) ?_
    refine mm_E.s rfl rfl rfl (fun _ => rfl) ?_
    refine mm_E.xa (v := xs 1) rfl rfl (by decide) rfl ?_
    refine mm_E.s rfl rfl rfl (fun _ => rfl) ?_
    refine mm_E.s rfl rfl rfl (fun _ => rfl) ?_
    refine mm_E.s rfl rfl rfl (fun _ => rfl) ?_
    refine mm_E.s rfl rfl rfl (fun _ => rfl) ?_
    refine mm_E.xa (v := xs 2) rfl rfl (by decide) rfl ?_
    refine mm_E.s rfl rfl rfl (fun _ => rfl) ?_
    refine mm_E.s rfl rfl rfl (fun _ => rfl) ?_
    refine mm_E.s rfl rfl rfl (fun _ => rfl) ?_
    refine mm_E.s rfl rfl rfl (fun _ => rfl) ?_
    refine mm_E.xa (v := xs 3) rfl rfl (by decide) rfl ?_
    refine mm_E.iv rfl rfl rfl rfl hO25 rfl E2 ?_
    first | refine mm_E.s rfl rfl rfl (fun _ => if_pos rfl) ?_ | refine mm_E.s rfl rfl rfl (fun _ => rfl) ?_
    exact x_fin rfl
  by_cases h8 : j = 8
  · subst h8
    obtain ⟨h1, E1, hE1⟩ := z_bm x_k0_e (xs 1) (xs 2) (xs 3)
    obtain ⟨h2, E2⟩ := y_bm hE1 (xs 1) (xs 2) (xs 3)
    obtain ⟨trO, hO25⟩ := y_o hE1
    refine ⟨h2, ?_⟩
    refine pre _ ?_
    refine mm_E.s rfl rfl rfl (fun _ => rfl) ?_
    refine mm_E.s rfl rfl rfl (fun _ => rfl) ?_
    refine mm_E.s rfl rfl rfl (fun _ => rfl) ?_
    refine mm_E.s rfl rfl rfl (fun _ => rfl) ?_
    refine mm_E.s rfl rfl rfl (fun _ => rfl) ?_
    refine mm_E.s rfl rfl rfl (fun _ => rfl) ?_
    refine mm_E.xa (v := xs 1) rfl rfl (by decide) rfl ?_
    refine mm_E.s rfl rfl rfl (fun _ => rfl) ?_
    refine mm_E.s rfl rfl rfl (fun _ => rfl) ?_
    refine mm_E.s rfl rfl rfl (fun _ => rfl) ?_
    refine mm_E.s rfl rfl rfl (fun _ => rfl) ?_
    refine mm_E.xa (v := xs 2) rfl rfl (by decide) rfl ?_
    refine mm_E.s rfl rfl rfl (fun _ => rfl) ?_
    refine mm_E.s rfl rfl rfl (fun _ => rfl) ?_
    refine mm_E.s rfl rfl rfl (fun _ => rfl) ?_
    refine mm_E.s rfl rfl rfl (fun _ => rfl) ?_
    refine mm_E.xa (v := xs 3) rfl rfl (by decide) rfl ?_
    refine mm_E.iv rfl rfl rfl rfl rfl rfl E1 ?_
    refine mm_E.s rfl rfl rfl (fun _ => rfl) ?_
    refine mm_E.s rfl rfl rfl (fun _ => rfl) ?_
    refine mm_E.s rfl rfl rfl (fun _ => rfl) ?_
    refine mm_E.s rfl rfl rfl (fun _ => rfl) ?_
    refine mm_E.s rfl rfl rfl (fun _ => rfl) ?_
    refine mm_E.xa (v := xs 1) rfl rfl (by decide) rfl ?_
    refine mm_E.s rfl rfl rfl (fun _ => rfl) ?_
    refine mm_E.s rfl rfl rfl (fun _ => rfl) ?_
    refine mm_E.s rfl rfl rfl (fun _ => rfl) ?_
    refine mm_E.s rfl rfl rfl (fun _ => rfl) ?_
    refine mm_E.xa (v := xs 2) rfl rfl (by decide) rfl ?_
    refine mm_E.s rfl rfl rfl (fun _ => rfl) ?_
    refine mm_E.s rfl rfl rfl (fun _ => rfl) ?_
    refine mm_E.s rfl rfl rfl (fun _ => rfl) ?_
    refine mm_E.s rfl rfl rfl (fun _ => rfl) ?_
    refine mm_E.xa (v := xs 3) rfl rfl (by decide) rfl ?_
    refine mm_E.iv rfl rfl rfl rfl hO25 rfl E2 ?_
    first | refine mm_E.s rfl rfl rfl (fun _ => if_pos rfl) ?_ | refine mm_E.s rfl rfl rfl (fun _ => rfl) ?_
    exact x_fin rfl
  by_cases h9 : j = 9
  · subst h9
    obtain ⟨h1, E1, hE1⟩ := z_put x_k0_e (xs 1) (xs 2) (xs 3)
    obtain ⟨tr, has, hO, hH, hz⟩ := y_z hE1
    have E2 := x_put0 hO hH hz (xs 1) (xs 2) (xs 3)
    obtain ⟨trO, hO25⟩ := y_o hE1
    refine ⟨h1, ?_⟩
    refine pre _ ?_
    refine mm_E.s rfl rfl rfl (fun _ => rfl) ?_
    refine mm_E.s rfl rfl rfl (fun _ => rfl) ?_
    refine mm_E.s rfl rfl rfl (fun _ => rfl) ?_
    refine mm_E.s rfl rfl rfl (fun _ => rfl) ?_
    refine mm_E.s rfl rfl rfl (fun _ => rfl) ?_
    refine mm_E.s rfl rfl rfl (fun _ => rfl) ?_
    refine mm_E.xa (v := xs 1) rfl rfl (by decide) rfl ?_
    refine mm_E.s rfl rfl rfl (fun _ => rfl) ?_
    refine mm_E.s rfl rfl rfl (fun _ => rfl) ?_
    refine mm_E.s rfl rfl rfl (fun _ => rfl) ?_
    refine mm_E.s rfl rfl rfl (fun _ => rfl) ?_
    refine mm_E.xa (v := xs 2) rfl rfl (by decide) rfl ?_
    refine mm_E.s rfl rfl rfl (fun _ => rfl) ?_
    refine mm_E.s rfl rfl rfl (fun _ => rfl) ?_
    refine mm_E.s rfl rfl rfl (fun _ => rfl) ?_
    refine mm_E.s rfl rfl rfl (fun _ => rfl) ?_
    refine mm_E.xa (v := xs 3) rfl rfl (by decide) rfl ?_
    refine mm_E.iv rfl rfl rfl rfl rfl rfl E1 ?_
    refine mm_E.s rfl rfl rfl (fun _ => rfl) ?_
    refine mm_E.s rfl rfl rfl (fun _ => rfl) ?_
    refine mm_E.s rfl rfl rfl (fun _ => rfl) ?_
    refine mm_E.s rfl rfl rfl (fun _ => rfl) ?_
    refine mm_E.s rfl rfl rfl (fun _ => rfl) ?_
    refine mm_E.xa (v := xs 1) rfl rfl (by decide) rfl ?_
    refine mm_E.s rfl rfl rfl (fun _ => rfl) ?_
    refine mm_E.s rfl rfl rfl (fun _ => rfl) ?_
    refine mm_E.s rfl rfl rfl (fun _ => rfl) ?_
    refine mm_E.s rfl rfl rfl (fun _ => rfl) ?_
    refine mm_E.xa (v := xs 2) rfl rfl (by decide) rfl ?_
    refine mm_E.s rfl rfl rfl (fun _ => rfl) ?_
    refine mm_E.s rfl rfl rfl (fun _ => rfl) ?_
    refine mm_E.s rfl rfl rfl (fun _ => rfl) ?_
    refine mm_E.s rfl rfl rfl (fun _ => rfl) ?_
    refine mm_E.xa (v := xs 3) rfl rfl (by decide) rfl ?_
    refine mm_E.iv rfl rfl rfl rfl hO25 rfl E2 ?_
    first | refine mm_E.s rfl rfl rfl (fun _ => if_pos rfl) ?_ | refine mm_E.s rfl rfl rfl (fun _ => rfl) ?_
    exact x_fin rfl
  by_cases h10 : j = 10
  · subst h10
    obtain ⟨h1, E1, hE1⟩ := z_get x_k0_e (xs 1) (xs 2)
    obtain ⟨tr, has, hO, hH, hz⟩ := y_z hE1
    have E2 := x_get0 hO hH hz (xs 1) (xs 2)
    obtain ⟨trO, hO25⟩ := y_o hE1
    refine ⟨h1, ?_⟩
    refine pre _ ?_
    refine mm_E.s rfl rfl rfl (fun _ => rfl) ?_
    refine mm_E.s rfl rfl rfl (fun _ => rfl) ?_
    refine mm_E.s rfl rfl rfl (fun _ => rfl) ?_
    refine mm_E.s rfl rfl rfl (fun _ => rfl) ?_
    refine mm_E.s rfl rfl rfl (fun _ => rfl) ?_
    refine mm_E.s rfl rfl rfl (fun _ => rfl) ?_
    refine mm_E.xa (v := xs 1) rfl rfl (by decide) rfl ?_
    refine mm_E.s rfl rfl rfl (fun _ => rfl) ?_
    refine mm_E.s rfl rfl rfl (fun _ => rfl) ?_
    refine mm_E.s rfl rfl rfl (fun _ => rfl) ?_
    refine mm_E.s rfl rfl rfl (fun _ => rfl) ?_
    refine mm_E.xa (v := xs 2) rfl rfl (by decide) rfl ?_
    refine mm_E.iv rfl rfl rfl rfl rfl rfl E1 ?_
    refine mm_E.s rfl rfl rfl (fun _ => rfl) ?_
    refine mm_E.s rfl rfl rfl (fun _ => rfl) ?_
    refine mm_E.s rfl rfl rfl (fun _ => rfl) ?_
    refine mm_E.s rfl rfl rfl (fun _ => rfl) ?_
    refine mm_E.s rfl rfl rfl (fun _ => rfl) ?_
    refine mm_E.xa (v := xs 1) rfl rfl (by decide) rfl ?_
    refine mm_E.s rfl rfl rfl (fun _ => rfl) ?_
    refine mm_E.s rfl rfl rfl (fun _ => rfl) ?_
    refine mm_E.s rfl rfl rfl (fun _ => rfl) ?_
    refine mm_E.s rfl rfl rfl (fun _ => rfl) ?_
    refine mm_E.xa (v := xs 2) rfl rfl (by decide) rfl ?_
    refine mm_E.iv rfl rfl rfl rfl hO25 rfl E2 ?_
    first | refine mm_E.s rfl rfl rfl (fun _ => if_pos rfl) ?_ | refine mm_E.s rfl rfl rfl (fun _ => rfl) ?_
    exact x_fin rfl
  by_cases h11 : j = 11
  · subst h11
    obtain ⟨h1, E1, hE1⟩ := z_boundary x_k0_e (xs 1) (xs 2)
    obtain ⟨tr, has, hO, hH, hz⟩ := y_z hE1
    have E2 := x_boundary0 hO hH hz (xs 1) (xs 2)
    obtain ⟨trO, hO25⟩ := y_o hE1
    refine ⟨h1, ?_⟩
    refine pre _ ?_
    refine mm_E.s rfl rfl rfl (fun _ => rfl) ?_
    refine mm_E.s rfl rfl rfl (fun _ => rfl) ?_
    refine mm_E.s rfl rfl rfl (fun _ => rfl) ?_
    refine mm_E.s rfl rfl rfl (fun _ => rfl) ?_
    refine mm_E.s rfl rfl rfl (fun _ => rfl) ?_
    refine mm_E.s rfl rfl rfl (fun _ => rfl) ?_
    refine mm_E.xa (v := xs 1) rfl rfl (by decide) rfl ?_
    refine mm_E.s rfl rfl rfl (fun _ => rfl) ?_
    refine mm_E.s rfl rfl rfl (fun _ => rfl) ?_
    refine mm_E.s rfl rfl rfl (fun _ => rfl) ?_
    refine mm_E.s rfl rfl rfl (fun _ => rfl) ?_
    refine mm_E.xa (v := xs 2) rfl rfl (by decide) rfl ?_
    refine mm_E.iv rfl rfl rfl rfl rfl rfl E1 ?_
    refine mm_E.s rfl rfl rfl (fun _ => rfl) ?_
    refine mm_E.s rfl rfl rfl (fun _ => rfl) ?_
    refine mm_E.s rfl rfl rfl (fun _ => rfl) ?_
    refine mm_E.s rfl rfl rfl (fun _ => rfl) ?_
    refine mm_E.s rfl rfl rfl (fun _ => rfl) ?_
    refine mm_E.xa (v := xs 1) rfl rfl (by decide) rfl ?_
    refine mm_E.s rfl rfl rfl (fun _ => rfl) ?_
    refine mm_E.s rfl rfl rfl (fun _ => rfl) ?_
    refine mm_E.s rfl rfl rfl (fun _ => rfl) ?_
    refine mm_E.s rfl rfl rfl (fun _ => rfl) ?_
    refine mm_E.xa (v := xs 2) rfl rfl (by decide) rfl ?_
    refine mm_E.iv rfl rfl rfl rfl hO25 rfl E2 ?_
    first | refine mm_E.s rfl rfl rfl (fun _ => if_pos rfl) ?_ | refine mm_E.s rfl rfl rfl (fun _ => rfl) ?_
    exact x_fin rfl
  by_cases h12 : j = 12
  · subst h12
    obtain ⟨h1, E1, hE1⟩ := z_order x_k0_e (xs 1) (xs 2)
    obtain ⟨h2, E2⟩ := y_order hE1 (xs 1) (xs 2)
    obtain ⟨trO, hO25⟩ := y_o hE1
    refine ⟨h2, ?_⟩
    refine pre _ ?_
    refine mm_E.s rfl rfl rfl (fun _ => rfl) ?_
    refine mm_E.s rfl rfl rfl (fun _ => rfl) ?_
    refine mm_E.s rfl rfl rfl (fun _ => rfl) ?_
    refine mm_E.s rfl rfl rfl (fun _ => rfl) ?_
    refine mm_E.s rfl rfl rfl (fun _ => rfl) ?_
    refine mm_E.s rfl rfl rfl (fun _ => rfl) ?_
    refine mm_E.xa (v := xs 1) rfl rfl (by decide) rfl ?_
    refine mm_E.s rfl rfl rfl (fun _ => rfl) ?_
    refine mm_E.s rfl rfl rfl (fun _ => rfl) ?_
    refine mm_E.s rfl rfl rfl (fun _ => rfl) ?_
    refine mm_E.s rfl rfl rfl (fun _ => rfl) ?_
    refine mm_E.xa (v := xs 2) rfl rfl (by decide) rfl ?_
    refine mm_E.iv rfl rfl rfl rfl rfl rfl E1 ?_
    refine mm_E.s rfl rfl rfl (fun _ => rfl) ?_
    refine mm_E.s rfl rfl rfl (fun _ => rfl) ?_
    refine mm_E.s rfl rfl rfl (fun _ => rfl) ?_
    refine mm_E.s rfl rfl rfl (fun _ => rfl) ?_
    refine mm_E.s rfl rfl rfl (fun _ => rfl) ?_
    refine mm_E.xa (v := xs 1) rfl rfl (by decide) rfl ?_
    refine mm_E.s rfl rfl rfl (fun _ => rfl) ?_
    refine mm_E.s rfl rfl rfl (fun _ => rfl) ?_
    refine mm_E.s rfl rfl rfl (fun _ => rfl) ?_
    refine mm_E.s rfl rfl rfl (fun _ => rfl) ?_
    refine mm_E.xa (v := xs 2) rfl rfl (by decide) rfl ?_
    refine mm_E.iv rfl rfl rfl rfl hO25 rfl E2 ?_
    first | refine mm_E.s rfl rfl rfl (fun _ => if_pos rfl) ?_ | refine mm_E.s rfl rfl rfl (fun _ => rfl) ?_
    exact x_fin rfl
  by_cases h13 : j = 13
  · subst h13
    obtain ⟨h1, E1, hE1⟩ := z_map x_k0_e (xs 1) (xs 2)
    obtain ⟨h2, E2⟩ := y_map hE1 (xs 1) (xs 2)
    obtain ⟨trO, hO25⟩ := y_o hE1
    refine ⟨h2, ?_⟩
    refine pre _ ?_
    refine mm_E.s rfl rfl rfl (fun _ => rfl) ?_
    refine mm_E.s rfl rfl rfl (fun _ => rfl) ?_
    refine mm_E.s rfl rfl rfl (fun _ => rfl) ?_
    refine mm_E.s rfl rfl rfl (fun _ => rfl) ?_
    refine mm_E.s rfl rfl rfl (fun _ => rfl) ?_
    refine mm_E.s rfl rfl rfl (fun _ => rfl) ?_
    refine mm_E.xa (v := xs 1) rfl rfl (by decide) rfl ?_
    refine mm_E.s rfl rfl rfl (fun _ => rfl) ?_
    refine mm_E.s rfl rfl rfl (fun _ => rfl) ?_
    refine mm_E.s rfl rfl rfl (fun _ => rfl) ?_
    refine mm_E.s rfl rfl rfl (fun _ => rfl) ?_
    refine mm_E.xa (v := xs 2) rfl rfl (by decide) rfl ?_
    refine mm_E.iv rfl rfl rfl rfl rfl rfl E1 ?_
    refine mm_E.s rfl rfl rfl (fun _ => rfl) ?_
    refine mm_E.s rfl rfl rfl (fun _ => rfl) ?_
    refine mm_E.s rfl rfl rfl (fun _ => rfl) ?_
    refine mm_E.s rfl rfl rfl (fun _ => rfl) ?_
    refine mm_E.s rfl rfl rfl (fun _ => rfl) ?_
    refine mm_E.xa (v := xs 1) rfl rfl (by decide) rfl ?_
    refine mm_E.s rfl rfl rfl (fun _ => rfl) ?_
    refine mm_E.s rfl rfl rfl (fun _ => rfl) ?_
    refine mm_E.s rfl rfl rfl (fun _ => rfl) ?_
    refine mm_E.s rfl rfl rfl (fun _ => rfl) ?_
    refine mm_E.xa (v := xs 2) rfl rfl (by decide) rfl ?_
    refine mm_E.iv rfl rfl rfl rfl hO25 rfl E2 ?_
    first | refine mm_E.s rfl rfl rfl (fun _ => if_pos rfl) ?_ | refine mm_E.s rfl rfl rfl (fun _ => rfl) ?_
    exact x_fin rfl
  by_cases h14 : j = 14
  · subst h14
    have E1 := z_simp x_k0_e
    have hE1 := x_e0_em x_k0_e
    obtain ⟨tr, has, hO, hH, hz⟩ := y_z hE1
    have E2 := x_simp0 hO hH hz
    obtain ⟨trO, hO25⟩ := y_o hE1
    refine ⟨k_h0, ?_⟩
    refine pre _ ?_
    refine mm_E.s rfl rfl rfl (fun _ => rfl) ?_
    refine mm_E.s rfl rfl rfl (fun _ => rfl) ?_
    refine mm_E.iv rfl rfl rfl rfl rfl rfl E1 ?_
    refine mm_E.s rfl rfl rfl (fun _ => rfl) ?_
    refine mm_E.iv rfl rfl rfl rfl hO25 rfl E2 ?_
    first | refine mm_E.s rfl rfl rfl (fun _ => if_pos rfl) ?_ | refine mm_E.s rfl rfl rfl (fun _ => rfl) ?_
    exact x_fin rfl
  by_cases h15 : j = 15
  · subst h15
    obtain ⟨h1, E1, hE1⟩ := z_image x_k0_e (xs 1)
    obtain ⟨tr, has, hO, hH, hz⟩ := y_z hE1
    have E2 := x_image0 hO hH hz (xs 1)
    obtain ⟨trO, hO25⟩ := y_o hE1
    refine ⟨h1, ?_⟩
    refine pre _ ?_
    refine mm_E.s rfl rfl rfl (fun _ => rfl) ?_
    refine mm_E.s rfl rfl rfl (fun _ => rfl) ?_
    refine mm_E.s rfl rfl rfl (fun _ => rfl) ?_
    refine mm_E.s rfl rfl rfl (fun _ => rfl) ?_
    refine mm_E.s rfl rfl rfl (fun _ => rfl) ?_
    refine mm_E.s rfl rfl rfl (fun _ => rfl) ?_
    refine mm_E.xa (v := xs 1) rfl rfl (by decide) rfl ?_
    refine mm_E.iv rfl rfl rfl rfl rfl rfl E1 ?_
    refine mm_E.s rfl rfl rfl (fun _ => rfl) ?_
    refine mm_E.s rfl rfl rfl (fun _ => rfl) ?_
    refine mm_E.s rfl rfl rfl (fun _ => rfl) ?_
    refine mm_E.s rfl rfl rfl (fun _ => rfl) ?_
    refine mm_E.s rfl rfl rfl (fun _ => rfl) ?_
    refine mm_E.xa (v := xs 1) rfl rfl (by decide) rfl ?_
    refine mm_E.iv rfl rfl rfl rfl hO25 rfl E2 ?_
    first | refine mm_E.s rfl rfl rfl (fun _ => if_pos rfl) ?_ | refine mm_E.s rfl rfl rfl (fun _ => rfl) ?_
    exact x_fin rfl
  by_cases h16 : j = 16
  · subst h16
    obtain ⟨h1, E1, hE1⟩ := z_rank x_k0_e (xs 1)
    obtain ⟨h2, E2⟩ := y_rk hE1 (xs 1)
    obtain ⟨trO, hO25⟩ := y_o hE1
    refine ⟨h2, ?_⟩
    refine pre _ ?_
    refine mm_E.s rfl rfl rfl (fun _ => rfl) ?_
    refine mm_E.s rfl rfl rfl (fun _ => rfl) ?_
    refine mm_E.s rfl rfl rfl (fun _ => rfl) ?_
    refine mm_E.s rfl rfl rfl (fun _ => rfl) ?_
    refine mm_E.s rfl rfl rfl (fun _ => rfl) ?_
    refine mm_E.s rfl rfl rfl (fun _ => rfl) ?_
    refine mm_E.xa (v := xs 1) rfl rfl (by decide) rfl ?_
    refine mm_E.iv rfl rfl rfl rfl rfl rfl E1 ?_
    refine mm_E.s rfl rfl rfl (fun _ => rfl) ?_
    refine mm_E.s rfl rfl rfl (fun _ => rfl) ?_
    refine mm_E.s rfl rfl rfl (fun _ => rfl) ?_
    refine mm_E.s rfl rfl rfl (fun _ => rfl) ?_
    refine mm_E.s rfl rfl rfl (fun _ => rfl) ?_
    refine mm_E.xa (v := xs 1) rfl rfl (by decide) rfl ?_
    refine mm_E.iv rfl rfl rfl rfl hO25 rfl E2 ?_
    first | refine mm_E.s rfl rfl rfl (fun _ => if_pos rfl) ?_ | refine mm_E.s rfl rfl rfl (fun _ => rfl) ?_
    exact x_fin rfl
  by_cases h17 : j = 17
  · subst h17
    obtain ⟨h1, E1, hE1⟩ := z_prod x_k0_e (xs 1)
    obtain ⟨h2, E2⟩ := y_prod hE1 (xs 1)
    obtain ⟨trO, hO25⟩ := y_o hE1
    refine ⟨h2, ?_⟩
    refine pre _ ?_
    refine mm_E.s rfl rfl rfl (fun _ => rfl) ?_
    refine mm_E.s rfl rfl rfl (fun _ => rfl) ?_
    refine mm_E.s rfl rfl rfl (fun _ => rfl) ?_
    refine mm_E.s rfl rfl rfl (fun _ => rfl) ?_
    refine mm_E.s rfl rfl rfl (fun _ => rfl) ?_
    refine mm_E.s rfl rfl rfl (fun _ => rfl) ?_
    refine mm_E.xa (v := xs 1) rfl rfl (by decide) rfl ?_
    refine mm_E.iv rfl rfl rfl rfl rfl rfl E1 ?_
    refine mm_E.s rfl rfl rfl (fun _ => rfl) ?_
    refine mm_E.s rfl rfl rfl (fun _ => rfl) ?_
    refine mm_E.s rfl rfl rfl (fun _ => rfl) ?_
    refine mm_E.s rfl rfl rfl (fun _ => rfl) ?_
    refine mm_E.s rfl rfl rfl (fun _ => rfl) ?_
    refine mm_E.xa (v := xs 1) rfl rfl (by decide) rfl ?_
    refine mm_E.iv rfl rfl rfl rfl hO25 rfl E2 ?_
    first | refine mm_E.s rfl rfl rfl (fun _ => if_pos rfl) ?_ | refine mm_E.s rfl rfl rfl (fun _ => rfl) ?_
    exact x_fin rfl
  omega
set_option maxRecDepth 100000 in
theorem x_law {L : Nat} {xs : Nat → Int32} (hL : L ≤ 5) : ∃ h1 : mm_H, mm_E kM (some (L, xs)) 116 18 [some (.retAddr 0), some (.ref 0), some (.ref 25), some (.int 0)] [] k_h0 (some (.int 1), h1) := by
  rcases (show L = 0 ∨ L = 1 ∨ L = 2 ∨ L = 3 ∨ L = 4 ∨ L = 5 by omega) with rfl | rfl | rfl | rfl | rfl | rfl
  · refine ⟨k_h0, ?_⟩
    refine mm_E.s rfl rfl rfl (fun _ => rfl) ?_
    refine mm_E.s rfl rfl rfl (fun _ => rfl) ?_
    refine mm_E.s rfl rfl rfl (fun _ => rfl) ?_
    refine mm_E.s rfl rfl rfl (fun _ => rfl) ?_
    refine mm_E.s rfl rfl rfl (fun _ => rfl) ?_
    refine mm_E.s rfl rfl rfl (fun _ => rfl) ?_
    refine mm_E.s rfl rfl rfl (fun _ => rfl) ?_
    exact mm_E.ret rfl rfl rfl
  · refine ⟨k_h0, ?_⟩
    refine mm_E.s rfl rfl rfl (fun _ => rfl) ?_
    refine mm_E.s rfl rfl rfl (fun _ => rfl) ?_
    refine mm_E.s rfl rfl rfl (fun _ => rfl) ?_
    refine mm_E.s rfl rfl rfl (fun _ => rfl) ?_
    refine mm_E.s rfl rfl rfl (fun _ => rfl) ?_
    refine mm_E.s rfl rfl rfl (fun _ => rfl) ?_
    refine mm_E.s rfl rfl rfl (fun _ => rfl) ?_
    exact mm_E.ret rfl rfl rfl
  · refine ⟨k_h0, ?_⟩
    refine mm_E.s rfl rfl rfl (fun _ => rfl) ?_
    refine mm_E.s rfl rfl rfl (fun _ => rfl) ?_
    refine mm_E.s rfl rfl rfl (fun _ => rfl) ?_
    refine mm_E.s rfl rfl rfl (fun _ => rfl) ?_
    refine mm_E.s rfl rfl rfl (fun _ => rfl) ?_
    refine mm_E.s rfl rfl rfl (fun _ => rfl) ?_
    refine mm_E.s rfl rfl rfl (fun _ => rfl) ?_
    exact mm_E.ret rfl rfl rfl
  · refine ⟨k_h0, ?_⟩
    refine mm_E.s rfl rfl rfl (fun _ => rfl) ?_
    refine mm_E.s rfl rfl rfl (fun _ => rfl) ?_
    refine mm_E.s rfl rfl rfl (fun _ => rfl) ?_
    refine mm_E.s rfl rfl rfl (fun _ => rfl) ?_
    refine mm_E.s rfl rfl rfl (fun _ => rfl) ?_
    refine mm_E.s rfl rfl rfl (fun _ => rfl) ?_
    refine mm_E.s rfl rfl rfl (fun _ => rfl) ?_
    exact mm_E.ret rfl rfl rfl
  · refine ⟨k_h0, ?_⟩
    refine mm_E.s rfl rfl rfl (fun _ => rfl) ?_
    refine mm_E.s rfl rfl rfl (fun _ => rfl) ?_
    refine mm_E.s rfl rfl rfl (fun _ => rfl) ?_
    refine mm_E.s rfl rfl rfl (fun _ => rfl) ?_
    refine mm_E.s rfl rfl rfl (fun _ => rfl) ?_
    refine mm_E.s rfl rfl rfl (fun _ => rfl) ?_
    refine mm_E.s rfl rfl rfl (fun _ => rfl) ?_
    exact mm_E.ret rfl rfl rfl
  · exact x_law5

