/-! THE COUNTER IN GENERAL: any two complexes -/
theorem x_24 (a j : Nat) : nI a * (Int8.ofInt 24).toInt32 + nI j = nI (a * 24 + j) := by
  rw [show ((Int8.ofInt 24).toInt32 : Int32) = nI 24 from rfl, pk_mul, nI_add]
theorem v_size0 {pl0 ke0 sz0 se0 gr0 pl1 ke1 sz1 se1 gr1 im ce wo pv fa pm pw fr ba : Nat → Int32} {rw : Nat → Int64} {ro co mo : Int32} {mi : Int64} {ki : Int32} {M : mm_H} (k : Int32) : mm_EC kM 4 [.ref 1, .int k] ([.inr (3, [.ref 1, .ref 7, .ref 13, .ref 14, .ref 21, .ref 23, .ref 24]), .inr (0, [.ref 2, .ref 3, .ref 4, .ref 5, .ref 6]), x_it 256 pl0, x_it 256 ke0, x_it 4 sz0, x_it 96 se0, x_it 4 gr0, .inr (0, [.ref 8, .ref 9, .ref 10, .ref 11, .ref 12]), x_it 256 pl1, x_it 256 ke1, x_it 4 sz1, x_it 96 se1, x_it 4 gr1, x_it 8 im, .inr (1, [.ref 15, .ref 16, .ref 17, .ref 18, .ref 19, .ref 20, .int ro, .int co, .int mo, .long mi, .int ki]), x_it 2304 ce, x_it 2304 wo, x_it 31 pv, x_it 48 fa, x_it 10 pm, x_it 10 pw, .inr (2, [.ref 22]), x_lg 24 rw, x_it 24 fr, x_it 24 ba] ++ M : mm_H) (some (.int (if ¬ k < 0 ∧ ¬ 4 ≤ k then sz0 k.toNatClampNeg else 0)), ([.inr (3, [.ref 1, .ref 7, .ref 13, .ref 14, .ref 21, .ref 23, .ref 24]), .inr (0, [.ref 2, .ref 3, .ref 4, .ref 5, .ref 6]), x_it 256 pl0, x_it 256 ke0, x_it 4 sz0, x_it 96 se0, x_it 4 gr0, .inr (0, [.ref 8, .ref 9, .ref 10, .ref 11, .ref 12]), x_it 256 pl1, x_it 256 ke1, x_it 4 sz1, x_it 96 se1, x_it 4 gr1, x_it 8 im, .inr (1, [.ref 15, .ref 16, .ref 17, .ref 18, .ref 19, .ref 20, .int ro, .int co, .int mo, .long mi, .int ki]), x_it 2304 ce, x_it 2304 wo, x_it 31 pv, x_it 48 fa, x_it 10 pm, x_it 10 pw, .inr (2, [.ref 22]), x_lg 24 rw, x_it 24 fr, x_it 24 ba] ++ M : mm_H)) := by
  refine ⟨kq_4, rfl, rfl, ?_⟩
  by_cases hk : k < 0 ∨ 4 ≤ k
  · rw [if_neg (fun q => hk.elim q.1 q.2)]
    refine mm_E.s rfl rfl rfl (fun _ => rfl) ?_
    refine mm_E.ic rfl rfl rfl rfl rfl (z_isD0 hk) ?_
    refine mm_E.s rfl rfl rfl (fun _ => rfl) ?_
    refine mm_E.s rfl rfl rfl (fun _ => rfl) ?_
    exact mm_E.ret rfl rfl rfl
  · have k0 : ¬ k < 0 := fun q => hk (Or.inl q)
    have k4 : ¬ 4 ≤ k := fun q => hk (Or.inr q)
    rw [if_pos ⟨k0, k4⟩]
    obtain ⟨j, hj, rfl⟩ := nI_of2 (x := k) (M := 3) (n := 3) rfl k0 (Int32.not_lt.mp (fun q => k4 (x_34 q)))
    refine mm_E.s rfl rfl rfl (fun _ => rfl) ?_
    refine mm_E.ic rfl rfl rfl rfl rfl (z_isD1 k0 k4) ?_
    refine mm_E.s rfl rfl rfl (fun _ => rfl) ?_
    refine mm_E.s rfl rfl rfl (fun _ => rfl) ?_
    refine mm_E.gf rfl rfl rfl rfl rfl ?_
    refine mm_E.s rfl rfl rfl (fun _ => rfl) ?_
    refine mm_E.ia rfl rfl rfl (mm_bd (by omega) (by decide)) rfl ?_
    refine mm_E.s rfl rfl rfl (fun _ => rfl) ?_
    exact mm_E.ret rfl rfl rfl
theorem v_setAt0 {pl0 ke0 sz0 se0 gr0 pl1 ke1 sz1 se1 gr1 im ce wo pv fa pm pw fr ba : Nat → Int32} {rw : Nat → Int64} {ro co mo : Int32} {mi : Int64} {ki : Int32} {M : mm_H} {a j : Nat} (h : a * 24 + j < 96) : mm_EC kM 5 [.ref 1, .int (nI a), .int (nI j)] ([.inr (3, [.ref 1, .ref 7, .ref 13, .ref 14, .ref 21, .ref 23, .ref 24]), .inr (0, [.ref 2, .ref 3, .ref 4, .ref 5, .ref 6]), x_it 256 pl0, x_it 256 ke0, x_it 4 sz0, x_it 96 se0, x_it 4 gr0, .inr (0, [.ref 8, .ref 9, .ref 10, .ref 11, .ref 12]), x_it 256 pl1, x_it 256 ke1, x_it 4 sz1, x_it 96 se1, x_it 4 gr1, x_it 8 im, .inr (1, [.ref 15, .ref 16, .ref 17, .ref 18, .ref 19, .ref 20, .int ro, .int co, .int mo, .long mi, .int ki]), x_it 2304 ce, x_it 2304 wo, x_it 31 pv, x_it 48 fa, x_it 10 pm, x_it 10 pw, .inr (2, [.ref 22]), x_lg 24 rw, x_it 24 fr, x_it 24 ba] ++ M : mm_H) (some (.int (se0 (a * 24 + j))), ([.inr (3, [.ref 1, .ref 7, .ref 13, .ref 14, .ref 21, .ref 23, .ref 24]), .inr (0, [.ref 2, .ref 3, .ref 4, .ref 5, .ref 6]), x_it 256 pl0, x_it 256 ke0, x_it 4 sz0, x_it 96 se0, x_it 4 gr0, .inr (0, [.ref 8, .ref 9, .ref 10, .ref 11, .ref 12]), x_it 256 pl1, x_it 256 ke1, x_it 4 sz1, x_it 96 se1, x_it 4 gr1, x_it 8 im, .inr (1, [.ref 15, .ref 16, .ref 17, .ref 18, .ref 19, .ref 20, .int ro, .int co, .int mo, .long mi, .int ki]), x_it 2304 ce, x_it 2304 wo, x_it 31 pv, x_it 48 fa, x_it 10 pm, x_it 10 pw, .inr (2, [.ref 22]), x_lg 24 rw, x_it 24 fr, x_it 24 ba] ++ M : mm_H)) := by
  refine ⟨kq_5, rfl, rfl, ?_⟩
  refine mm_E.s rfl rfl rfl (fun _ => rfl) ?_
  refine mm_E.gf rfl rfl rfl rfl rfl ?_
  refine mm_E.s rfl rfl rfl (fun _ => rfl) ?_
  refine mm_E.s rfl rfl rfl (fun _ => rfl) ?_
  refine mm_E.s rfl rfl rfl (fun _ => rfl) ?_
  refine mm_E.s rfl rfl rfl (fun _ => rfl) ?_
  refine mm_E.s rfl rfl rfl (fun _ => rfl) ?_
  refine mm_E.ti (nI (a * 24 + j)) (x_24 a j) ?_
  refine mm_E.ia rfl rfl rfl (mm_bd h (by decide)) (v := se0 (a * 24 + j)) (by rw [mm_cl (by omega)]) ?_
  exact mm_E.ret rfl rfl rfl
theorem v_holds0 {pl0 ke0 sz0 se0 gr0 pl1 ke1 sz1 se1 gr1 im ce wo pv fa pm pw fr ba : Nat → Int32} {rw : Nat → Int64} {ro co mo : Int32} {mi : Int64} {ki : Int32} {M : mm_H} (s : Int32) : mm_EC kM 6 [.ref 1, .int s] ([.inr (3, [.ref 1, .ref 7, .ref 13, .ref 14, .ref 21, .ref 23, .ref 24]), .inr (0, [.ref 2, .ref 3, .ref 4, .ref 5, .ref 6]), x_it 256 pl0, x_it 256 ke0, x_it 4 sz0, x_it 96 se0, x_it 4 gr0, .inr (0, [.ref 8, .ref 9, .ref 10, .ref 11, .ref 12]), x_it 256 pl1, x_it 256 ke1, x_it 4 sz1, x_it 96 se1, x_it 4 gr1, x_it 8 im, .inr (1, [.ref 15, .ref 16, .ref 17, .ref 18, .ref 19, .ref 20, .int ro, .int co, .int mo, .long mi, .int ki]), x_it 2304 ce, x_it 2304 wo, x_it 31 pv, x_it 48 fa, x_it 10 pm, x_it 10 pw, .inr (2, [.ref 22]), x_lg 24 rw, x_it 24 fr, x_it 24 ba] ++ M : mm_H) (some (.int (if ¬ s ≤ 0 ∧ ¬ 256 ≤ s ∧ ¬ pl0 s.toNatClampNeg = -1 then 1 else 0)), ([.inr (3, [.ref 1, .ref 7, .ref 13, .ref 14, .ref 21, .ref 23, .ref 24]), .inr (0, [.ref 2, .ref 3, .ref 4, .ref 5, .ref 6]), x_it 256 pl0, x_it 256 ke0, x_it 4 sz0, x_it 96 se0, x_it 4 gr0, .inr (0, [.ref 8, .ref 9, .ref 10, .ref 11, .ref 12]), x_it 256 pl1, x_it 256 ke1, x_it 4 sz1, x_it 96 se1, x_it 4 gr1, x_it 8 im, .inr (1, [.ref 15, .ref 16, .ref 17, .ref 18, .ref 19, .ref 20, .int ro, .int co, .int mo, .long mi, .int ki]), x_it 2304 ce, x_it 2304 wo, x_it 31 pv, x_it 48 fa, x_it 10 pm, x_it 10 pw, .inr (2, [.ref 22]), x_lg 24 rw, x_it 24 fr, x_it 24 ba] ++ M : mm_H)) := by
  refine ⟨kq_6, rfl, rfl, ?_⟩
  by_cases h1 : s ≤ 0
  · rw [if_neg (fun q => q.1 h1)]
    refine mm_E.s rfl rfl rfl (fun _ => rfl) ?_
    refine mm_E.s rfl rfl rfl (fun _ => if_pos h1) ?_
    refine mm_E.s rfl rfl rfl (fun _ => rfl) ?_
    exact mm_E.ret rfl rfl rfl
  · by_cases h2 : 256 ≤ s
    · rw [if_neg (fun q => q.2.1 h2)]
      refine mm_E.s rfl rfl rfl (fun _ => rfl) ?_
      refine mm_E.s rfl rfl rfl (fun _ => if_neg h1) ?_
      refine mm_E.s rfl rfl rfl (fun _ => rfl) ?_
      refine mm_E.s rfl rfl rfl (fun _ => rfl) ?_
      refine mm_E.s rfl rfl rfl (fun _ => if_pos h2) ?_
      refine mm_E.s rfl rfl rfl (fun _ => rfl) ?_
      exact mm_E.ret rfl rfl rfl
    · obtain ⟨j, hj, rfl⟩ := x_255 h1 h2
      rw [mm_cl (by omega)]
      by_cases h3 : pl0 j = -1
      · rw [if_neg (fun q => q.2.2 h3)]
        refine mm_E.s rfl rfl rfl (fun _ => rfl) ?_
        refine mm_E.s rfl rfl rfl (fun _ => if_neg h1) ?_
        refine mm_E.s rfl rfl rfl (fun _ => rfl) ?_
        refine mm_E.s rfl rfl rfl (fun _ => rfl) ?_
        refine mm_E.s rfl rfl rfl (fun _ => if_neg h2) ?_
        refine mm_E.s rfl rfl rfl (fun _ => rfl) ?_
        refine mm_E.gf rfl rfl rfl rfl rfl ?_
        refine mm_E.s rfl rfl rfl (fun _ => rfl) ?_
        refine mm_E.ia rfl rfl rfl (mm_bd (by omega) (by decide)) (v := pl0 j) (by rw [mm_cl (by omega)]) ?_
        refine mm_E.s rfl rfl rfl (fun _ => rfl) ?_
        refine mm_E.s rfl rfl rfl (fun _ => if_pos h3) ?_
        refine mm_E.s rfl rfl rfl (fun _ => rfl) ?_
        exact mm_E.ret rfl rfl rfl
      · rw [if_pos ⟨h1, h2, h3⟩]
        refine mm_E.s rfl rfl rfl (fun _ => rfl) ?_
        refine mm_E.s rfl rfl rfl (fun _ => if_neg h1) ?_
        refine mm_E.s rfl rfl rfl (fun _ => rfl) ?_
        refine mm_E.s rfl rfl rfl (fun _ => rfl) ?_
        refine mm_E.s rfl rfl rfl (fun _ => if_neg h2) ?_
        refine mm_E.s rfl rfl rfl (fun _ => rfl) ?_
        refine mm_E.gf rfl rfl rfl rfl rfl ?_
        refine mm_E.s rfl rfl rfl (fun _ => rfl) ?_
        refine mm_E.ia rfl rfl rfl (mm_bd (by omega) (by decide)) (v := pl0 j) (by rw [mm_cl (by omega)]) ?_
        refine mm_E.s rfl rfl rfl (fun _ => rfl) ?_
        refine mm_E.s rfl rfl rfl (fun _ => if_neg h3) ?_
        refine mm_E.s rfl rfl rfl (fun _ => rfl) ?_
        refine mm_E.s rfl rfl rfl (fun _ => rfl) ?_
        exact mm_E.ret rfl rfl rfl
theorem v_place0 {pl0 ke0 sz0 se0 gr0 pl1 ke1 sz1 se1 gr1 im ce wo pv fa pm pw fr ba : Nat → Int32} {rw : Nat → Int64} {ro co mo : Int32} {mi : Int64} {ki : Int32} {M : mm_H} {q : Nat} (h : q < 256) : mm_EC kM 7 [.ref 1, .int (nI q)] ([.inr (3, [.ref 1, .ref 7, .ref 13, .ref 14, .ref 21, .ref 23, .ref 24]), .inr (0, [.ref 2, .ref 3, .ref 4, .ref 5, .ref 6]), x_it 256 pl0, x_it 256 ke0, x_it 4 sz0, x_it 96 se0, x_it 4 gr0, .inr (0, [.ref 8, .ref 9, .ref 10, .ref 11, .ref 12]), x_it 256 pl1, x_it 256 ke1, x_it 4 sz1, x_it 96 se1, x_it 4 gr1, x_it 8 im, .inr (1, [.ref 15, .ref 16, .ref 17, .ref 18, .ref 19, .ref 20, .int ro, .int co, .int mo, .long mi, .int ki]), x_it 2304 ce, x_it 2304 wo, x_it 31 pv, x_it 48 fa, x_it 10 pm, x_it 10 pw, .inr (2, [.ref 22]), x_lg 24 rw, x_it 24 fr, x_it 24 ba] ++ M : mm_H) (some (.int (pl0 q)), ([.inr (3, [.ref 1, .ref 7, .ref 13, .ref 14, .ref 21, .ref 23, .ref 24]), .inr (0, [.ref 2, .ref 3, .ref 4, .ref 5, .ref 6]), x_it 256 pl0, x_it 256 ke0, x_it 4 sz0, x_it 96 se0, x_it 4 gr0, .inr (0, [.ref 8, .ref 9, .ref 10, .ref 11, .ref 12]), x_it 256 pl1, x_it 256 ke1, x_it 4 sz1, x_it 96 se1, x_it 4 gr1, x_it 8 im, .inr (1, [.ref 15, .ref 16, .ref 17, .ref 18, .ref 19, .ref 20, .int ro, .int co, .int mo, .long mi, .int ki]), x_it 2304 ce, x_it 2304 wo, x_it 31 pv, x_it 48 fa, x_it 10 pm, x_it 10 pw, .inr (2, [.ref 22]), x_lg 24 rw, x_it 24 fr, x_it 24 ba] ++ M : mm_H)) := by
  refine ⟨kq_7, rfl, rfl, ?_⟩
  refine mm_E.s rfl rfl rfl (fun _ => rfl) ?_
  refine mm_E.gf rfl rfl rfl rfl rfl ?_
  refine mm_E.s rfl rfl rfl (fun _ => rfl) ?_
  refine mm_E.ia rfl rfl rfl (mm_bd h (by decide)) (v := pl0 q) (by rw [mm_cl (by omega)]) ?_
  exact mm_E.ret rfl rfl rfl
theorem v_kept0 {pl0 ke0 sz0 se0 gr0 pl1 ke1 sz1 se1 gr1 im ce wo pv fa pm pw fr ba : Nat → Int32} {rw : Nat → Int64} {ro co mo : Int32} {mi : Int64} {ki : Int32} {M : mm_H} {q : Nat} (h : q < 256) : mm_EC kM 8 [.ref 1, .int (nI q)] ([.inr (3, [.ref 1, .ref 7, .ref 13, .ref 14, .ref 21, .ref 23, .ref 24]), .inr (0, [.ref 2, .ref 3, .ref 4, .ref 5, .ref 6]), x_it 256 pl0, x_it 256 ke0, x_it 4 sz0, x_it 96 se0, x_it 4 gr0, .inr (0, [.ref 8, .ref 9, .ref 10, .ref 11, .ref 12]), x_it 256 pl1, x_it 256 ke1, x_it 4 sz1, x_it 96 se1, x_it 4 gr1, x_it 8 im, .inr (1, [.ref 15, .ref 16, .ref 17, .ref 18, .ref 19, .ref 20, .int ro, .int co, .int mo, .long mi, .int ki]), x_it 2304 ce, x_it 2304 wo, x_it 31 pv, x_it 48 fa, x_it 10 pm, x_it 10 pw, .inr (2, [.ref 22]), x_lg 24 rw, x_it 24 fr, x_it 24 ba] ++ M : mm_H) (some (.int (ke0 q)), ([.inr (3, [.ref 1, .ref 7, .ref 13, .ref 14, .ref 21, .ref 23, .ref 24]), .inr (0, [.ref 2, .ref 3, .ref 4, .ref 5, .ref 6]), x_it 256 pl0, x_it 256 ke0, x_it 4 sz0, x_it 96 se0, x_it 4 gr0, .inr (0, [.ref 8, .ref 9, .ref 10, .ref 11, .ref 12]), x_it 256 pl1, x_it 256 ke1, x_it 4 sz1, x_it 96 se1, x_it 4 gr1, x_it 8 im, .inr (1, [.ref 15, .ref 16, .ref 17, .ref 18, .ref 19, .ref 20, .int ro, .int co, .int mo, .long mi, .int ki]), x_it 2304 ce, x_it 2304 wo, x_it 31 pv, x_it 48 fa, x_it 10 pm, x_it 10 pw, .inr (2, [.ref 22]), x_lg 24 rw, x_it 24 fr, x_it 24 ba] ++ M : mm_H)) := by
  refine ⟨kq_8, rfl, rfl, ?_⟩
  refine mm_E.s rfl rfl rfl (fun _ => rfl) ?_
  refine mm_E.gf rfl rfl rfl rfl rfl ?_
  refine mm_E.s rfl rfl rfl (fun _ => rfl) ?_
  refine mm_E.ia rfl rfl rfl (mm_bd h (by decide)) (v := ke0 q) (by rw [mm_cl (by omega)]) ?_
  exact mm_E.ret rfl rfl rfl
theorem v_keep0 {pl0 ke0 sz0 se0 gr0 pl1 ke1 sz1 se1 gr1 im ce wo pv fa pm pw fr ba : Nat → Int32} {rw : Nat → Int64} {ro co mo : Int32} {mi : Int64} {ki : Int32} {M : mm_H} {q : Nat} (h : q < 256) (x : Int32) : mm_EC kM 9 [.ref 1, .int (nI q), .int x] ([.inr (3, [.ref 1, .ref 7, .ref 13, .ref 14, .ref 21, .ref 23, .ref 24]), .inr (0, [.ref 2, .ref 3, .ref 4, .ref 5, .ref 6]), x_it 256 pl0, x_it 256 ke0, x_it 4 sz0, x_it 96 se0, x_it 4 gr0, .inr (0, [.ref 8, .ref 9, .ref 10, .ref 11, .ref 12]), x_it 256 pl1, x_it 256 ke1, x_it 4 sz1, x_it 96 se1, x_it 4 gr1, x_it 8 im, .inr (1, [.ref 15, .ref 16, .ref 17, .ref 18, .ref 19, .ref 20, .int ro, .int co, .int mo, .long mi, .int ki]), x_it 2304 ce, x_it 2304 wo, x_it 31 pv, x_it 48 fa, x_it 10 pm, x_it 10 pw, .inr (2, [.ref 22]), x_lg 24 rw, x_it 24 fr, x_it 24 ba] ++ M : mm_H) (none, ([.inr (3, [.ref 1, .ref 7, .ref 13, .ref 14, .ref 21, .ref 23, .ref 24]), .inr (0, [.ref 2, .ref 3, .ref 4, .ref 5, .ref 6]), x_it 256 pl0, x_it 256 (upd ke0 q x), x_it 4 sz0, x_it 96 se0, x_it 4 gr0, .inr (0, [.ref 8, .ref 9, .ref 10, .ref 11, .ref 12]), x_it 256 pl1, x_it 256 ke1, x_it 4 sz1, x_it 96 se1, x_it 4 gr1, x_it 8 im, .inr (1, [.ref 15, .ref 16, .ref 17, .ref 18, .ref 19, .ref 20, .int ro, .int co, .int mo, .long mi, .int ki]), x_it 2304 ce, x_it 2304 wo, x_it 31 pv, x_it 48 fa, x_it 10 pm, x_it 10 pw, .inr (2, [.ref 22]), x_lg 24 rw, x_it 24 fr, x_it 24 ba] ++ M : mm_H)) := by
  refine ⟨kq_9, rfl, rfl, ?_⟩
  refine mm_E.s rfl rfl rfl (fun _ => rfl) ?_
  refine mm_E.gf rfl rfl rfl rfl rfl ?_
  refine mm_E.s rfl rfl rfl (fun _ => rfl) ?_
  refine mm_E.s rfl rfl rfl (fun _ => rfl) ?_
  refine mm_E.is rfl rfl rfl (mm_bd h (by decide)) rfl ?_
  rw [mm_cl (by omega)]
  exact mm_E.ret rfl rfl rfl

theorem v_size1 {pl0 ke0 sz0 se0 gr0 pl1 ke1 sz1 se1 gr1 im ce wo pv fa pm pw fr ba : Nat → Int32} {rw : Nat → Int64} {ro co mo : Int32} {mi : Int64} {ki : Int32} {M : mm_H} (k : Int32) : mm_EC kM 4 [.ref 7, .int k] ([.inr (3, [.ref 1, .ref 7, .ref 13, .ref 14, .ref 21, .ref 23, .ref 24]), .inr (0, [.ref 2, .ref 3, .ref 4, .ref 5, .ref 6]), x_it 256 pl0, x_it 256 ke0, x_it 4 sz0, x_it 96 se0, x_it 4 gr0, .inr (0, [.ref 8, .ref 9, .ref 10, .ref 11, .ref 12]), x_it 256 pl1, x_it 256 ke1, x_it 4 sz1, x_it 96 se1, x_it 4 gr1, x_it 8 im, .inr (1, [.ref 15, .ref 16, .ref 17, .ref 18, .ref 19, .ref 20, .int ro, .int co, .int mo, .long mi, .int ki]), x_it 2304 ce, x_it 2304 wo, x_it 31 pv, x_it 48 fa, x_it 10 pm, x_it 10 pw, .inr (2, [.ref 22]), x_lg 24 rw, x_it 24 fr, x_it 24 ba] ++ M : mm_H) (some (.int (if ¬ k < 0 ∧ ¬ 4 ≤ k then sz1 k.toNatClampNeg else 0)), ([.inr (3, [.ref 1, .ref 7, .ref 13, .ref 14, .ref 21, .ref 23, .ref 24]), .inr (0, [.ref 2, .ref 3, .ref 4, .ref 5, .ref 6]), x_it 256 pl0, x_it 256 ke0, x_it 4 sz0, x_it 96 se0, x_it 4 gr0, .inr (0, [.ref 8, .ref 9, .ref 10, .ref 11, .ref 12]), x_it 256 pl1, x_it 256 ke1, x_it 4 sz1, x_it 96 se1, x_it 4 gr1, x_it 8 im, .inr (1, [.ref 15, .ref 16, .ref 17, .ref 18, .ref 19, .ref 20, .int ro, .int co, .int mo, .long mi, .int ki]), x_it 2304 ce, x_it 2304 wo, x_it 31 pv, x_it 48 fa, x_it 10 pm, x_it 10 pw, .inr (2, [.ref 22]), x_lg 24 rw, x_it 24 fr, x_it 24 ba] ++ M : mm_H)) := by
  refine ⟨kq_4, rfl, rfl, ?_⟩
  by_cases hk : k < 0 ∨ 4 ≤ k
  · rw [if_neg (fun q => hk.elim q.1 q.2)]
    refine mm_E.s rfl rfl rfl (fun _ => rfl) ?_
    refine mm_E.ic rfl rfl rfl rfl rfl (z_isD0 hk) ?_
    refine mm_E.s rfl rfl rfl (fun _ => rfl) ?_
    refine mm_E.s rfl rfl rfl (fun _ => rfl) ?_
    exact mm_E.ret rfl rfl rfl
  · have k0 : ¬ k < 0 := fun q => hk (Or.inl q)
    have k4 : ¬ 4 ≤ k := fun q => hk (Or.inr q)
    rw [if_pos ⟨k0, k4⟩]
    obtain ⟨j, hj, rfl⟩ := nI_of2 (x := k) (M := 3) (n := 3) rfl k0 (Int32.not_lt.mp (fun q => k4 (x_34 q)))
    refine mm_E.s rfl rfl rfl (fun _ => rfl) ?_
    refine mm_E.ic rfl rfl rfl rfl rfl (z_isD1 k0 k4) ?_
    refine mm_E.s rfl rfl rfl (fun _ => rfl) ?_
    refine mm_E.s rfl rfl rfl (fun _ => rfl) ?_
    refine mm_E.gf rfl rfl rfl rfl rfl ?_
    refine mm_E.s rfl rfl rfl (fun _ => rfl) ?_
    refine mm_E.ia rfl rfl rfl (mm_bd (by omega) (by decide)) rfl ?_
    refine mm_E.s rfl rfl rfl (fun _ => rfl) ?_
    exact mm_E.ret rfl rfl rfl
theorem v_setAt1 {pl0 ke0 sz0 se0 gr0 pl1 ke1 sz1 se1 gr1 im ce wo pv fa pm pw fr ba : Nat → Int32} {rw : Nat → Int64} {ro co mo : Int32} {mi : Int64} {ki : Int32} {M : mm_H} {a j : Nat} (h : a * 24 + j < 96) : mm_EC kM 5 [.ref 7, .int (nI a), .int (nI j)] ([.inr (3, [.ref 1, .ref 7, .ref 13, .ref 14, .ref 21, .ref 23, .ref 24]), .inr (0, [.ref 2, .ref 3, .ref 4, .ref 5, .ref 6]), x_it 256 pl0, x_it 256 ke0, x_it 4 sz0, x_it 96 se0, x_it 4 gr0, .inr (0, [.ref 8, .ref 9, .ref 10, .ref 11, .ref 12]), x_it 256 pl1, x_it 256 ke1, x_it 4 sz1, x_it 96 se1, x_it 4 gr1, x_it 8 im, .inr (1, [.ref 15, .ref 16, .ref 17, .ref 18, .ref 19, .ref 20, .int ro, .int co, .int mo, .long mi, .int ki]), x_it 2304 ce, x_it 2304 wo, x_it 31 pv, x_it 48 fa, x_it 10 pm, x_it 10 pw, .inr (2, [.ref 22]), x_lg 24 rw, x_it 24 fr, x_it 24 ba] ++ M : mm_H) (some (.int (se1 (a * 24 + j))), ([.inr (3, [.ref 1, .ref 7, .ref 13, .ref 14, .ref 21, .ref 23, .ref 24]), .inr (0, [.ref 2, .ref 3, .ref 4, .ref 5, .ref 6]), x_it 256 pl0, x_it 256 ke0, x_it 4 sz0, x_it 96 se0, x_it 4 gr0, .inr (0, [.ref 8, .ref 9, .ref 10, .ref 11, .ref 12]), x_it 256 pl1, x_it 256 ke1, x_it 4 sz1, x_it 96 se1, x_it 4 gr1, x_it 8 im, .inr (1, [.ref 15, .ref 16, .ref 17, .ref 18, .ref 19, .ref 20, .int ro, .int co, .int mo, .long mi, .int ki]), x_it 2304 ce, x_it 2304 wo, x_it 31 pv, x_it 48 fa, x_it 10 pm, x_it 10 pw, .inr (2, [.ref 22]), x_lg 24 rw, x_it 24 fr, x_it 24 ba] ++ M : mm_H)) := by
  refine ⟨kq_5, rfl, rfl, ?_⟩
  refine mm_E.s rfl rfl rfl (fun _ => rfl) ?_
  refine mm_E.gf rfl rfl rfl rfl rfl ?_
  refine mm_E.s rfl rfl rfl (fun _ => rfl) ?_
  refine mm_E.s rfl rfl rfl (fun _ => rfl) ?_
  refine mm_E.s rfl rfl rfl (fun _ => rfl) ?_
  refine mm_E.s rfl rfl rfl (fun _ => rfl) ?_
  refine mm_E.s rfl rfl rfl (fun _ => rfl) ?_
  refine mm_E.ti (nI (a * 24 + j)) (x_24 a j) ?_
  refine mm_E.ia rfl rfl rfl (mm_bd h (by decide)) (v := se1 (a * 24 + j)) (by rw [mm_cl (by omega)]) ?_
  exact mm_E.ret rfl rfl rfl
theorem v_holds1 {pl0 ke0 sz0 se0 gr0 pl1 ke1 sz1 se1 gr1 im ce wo pv fa pm pw fr ba : Nat → Int32} {rw : Nat → Int64} {ro co mo : Int32} {mi : Int64} {ki : Int32} {M : mm_H} (s : Int32) : mm_EC kM 6 [.ref 7, .int s] ([.inr (3, [.ref 1, .ref 7, .ref 13, .ref 14, .ref 21, .ref 23, .ref 24]), .inr (0, [.ref 2, .ref 3, .ref 4, .ref 5, .ref 6]), x_it 256 pl0, x_it 256 ke0, x_it 4 sz0, x_it 96 se0, x_it 4 gr0, .inr (0, [.ref 8, .ref 9, .ref 10, .ref 11, .ref 12]), x_it 256 pl1, x_it 256 ke1, x_it 4 sz1, x_it 96 se1, x_it 4 gr1, x_it 8 im, .inr (1, [.ref 15, .ref 16, .ref 17, .ref 18, .ref 19, .ref 20, .int ro, .int co, .int mo, .long mi, .int ki]), x_it 2304 ce, x_it 2304 wo, x_it 31 pv, x_it 48 fa, x_it 10 pm, x_it 10 pw, .inr (2, [.ref 22]), x_lg 24 rw, x_it 24 fr, x_it 24 ba] ++ M : mm_H) (some (.int (if ¬ s ≤ 0 ∧ ¬ 256 ≤ s ∧ ¬ pl1 s.toNatClampNeg = -1 then 1 else 0)), ([.inr (3, [.ref 1, .ref 7, .ref 13, .ref 14, .ref 21, .ref 23, .ref 24]), .inr (0, [.ref 2, .ref 3, .ref 4, .ref 5, .ref 6]), x_it 256 pl0, x_it 256 ke0, x_it 4 sz0, x_it 96 se0, x_it 4 gr0, .inr (0, [.ref 8, .ref 9, .ref 10, .ref 11, .ref 12]), x_it 256 pl1, x_it 256 ke1, x_it 4 sz1, x_it 96 se1, x_it 4 gr1, x_it 8 im, .inr (1, [.ref 15, .ref 16, .ref 17, .ref 18, .ref 19, .ref 20, .int ro, .int co, .int mo, .long mi, .int ki]), x_it 2304 ce, x_it 2304 wo, x_it 31 pv, x_it 48 fa, x_it 10 pm, x_it 10 pw, .inr (2, [.ref 22]), x_lg 24 rw, x_it 24 fr, x_it 24 ba] ++ M : mm_H)) := by
  refine ⟨kq_6, rfl, rfl, ?_⟩
  by_cases h1 : s ≤ 0
  · rw [if_neg (fun q => q.1 h1)]
    refine mm_E.s rfl rfl rfl (fun _ => rfl) ?_
    refine mm_E.s rfl rfl rfl (fun _ => if_pos h1) ?_
    refine mm_E.s rfl rfl rfl (fun _ => rfl) ?_
    exact mm_E.ret rfl rfl rfl
  · by_cases h2 : 256 ≤ s
    · rw [if_neg (fun q => q.2.1 h2)]
      refine mm_E.s rfl rfl rfl (fun _ => rfl) ?_
      refine mm_E.s rfl rfl rfl (fun _ => if_neg h1) ?_
      refine mm_E.s rfl rfl rfl (fun _ => rfl) ?_
      refine mm_E.s rfl rfl rfl (fun _ => rfl) ?_
      refine mm_E.s rfl rfl rfl (fun _ => if_pos h2) ?_
      refine mm_E.s rfl rfl rfl (fun _ => rfl) ?_
      exact mm_E.ret rfl rfl rfl
    · obtain ⟨j, hj, rfl⟩ := x_255 h1 h2
      rw [mm_cl (by omega)]
      by_cases h3 : pl1 j = -1
      · rw [if_neg (fun q => q.2.2 h3)]
        refine mm_E.s rfl rfl rfl (fun _ => rfl) ?_
        refine mm_E.s rfl rfl rfl (fun _ => if_neg h1) ?_
        refine mm_E.s rfl rfl rfl (fun _ => rfl) ?_
        refine mm_E.s rfl rfl rfl (fun _ => rfl) ?_
        refine mm_E.s rfl rfl rfl (fun _ => if_neg h2) ?_
        refine mm_E.s rfl rfl rfl (fun _ => rfl) ?_
        refine mm_E.gf rfl rfl rfl rfl rfl ?_
        refine mm_E.s rfl rfl rfl (fun _ => rfl) ?_
        refine mm_E.ia rfl rfl rfl (mm_bd (by omega) (by decide)) (v := pl1 j) (by rw [mm_cl (by omega)]) ?_
        refine mm_E.s rfl rfl rfl (fun _ => rfl) ?_
        refine mm_E.s rfl rfl rfl (fun _ => if_pos h3) ?_
        refine mm_E.s rfl rfl rfl (fun _ => rfl) ?_
        exact mm_E.ret rfl rfl rfl
      · rw [if_pos ⟨h1, h2, h3⟩]
        refine mm_E.s rfl rfl rfl (fun _ => rfl) ?_
        refine mm_E.s rfl rfl rfl (fun _ => if_neg h1) ?_
        refine mm_E.s rfl rfl rfl (fun _ => rfl) ?_
        refine mm_E.s rfl rfl rfl (fun _ => rfl) ?_
        refine mm_E.s rfl rfl rfl (fun _ => if_neg h2) ?_
        refine mm_E.s rfl rfl rfl (fun _ => rfl) ?_
        refine mm_E.gf rfl rfl rfl rfl rfl ?_
        refine mm_E.s rfl rfl rfl (fun _ => rfl) ?_
        refine mm_E.ia rfl rfl rfl (mm_bd (by omega) (by decide)) (v := pl1 j) (by rw [mm_cl (by omega)]) ?_
        refine mm_E.s rfl rfl rfl (fun _ => rfl) ?_
        refine mm_E.s rfl rfl rfl (fun _ => if_neg h3) ?_
        refine mm_E.s rfl rfl rfl (fun _ => rfl) ?_
        refine mm_E.s rfl rfl rfl (fun _ => rfl) ?_
        exact mm_E.ret rfl rfl rfl
theorem v_place1 {pl0 ke0 sz0 se0 gr0 pl1 ke1 sz1 se1 gr1 im ce wo pv fa pm pw fr ba : Nat → Int32} {rw : Nat → Int64} {ro co mo : Int32} {mi : Int64} {ki : Int32} {M : mm_H} {q : Nat} (h : q < 256) : mm_EC kM 7 [.ref 7, .int (nI q)] ([.inr (3, [.ref 1, .ref 7, .ref 13, .ref 14, .ref 21, .ref 23, .ref 24]), .inr (0, [.ref 2, .ref 3, .ref 4, .ref 5, .ref 6]), x_it 256 pl0, x_it 256 ke0, x_it 4 sz0, x_it 96 se0, x_it 4 gr0, .inr (0, [.ref 8, .ref 9, .ref 10, .ref 11, .ref 12]), x_it 256 pl1, x_it 256 ke1, x_it 4 sz1, x_it 96 se1, x_it 4 gr1, x_it 8 im, .inr (1, [.ref 15, .ref 16, .ref 17, .ref 18, .ref 19, .ref 20, .int ro, .int co, .int mo, .long mi, .int ki]), x_it 2304 ce, x_it 2304 wo, x_it 31 pv, x_it 48 fa, x_it 10 pm, x_it 10 pw, .inr (2, [.ref 22]), x_lg 24 rw, x_it 24 fr, x_it 24 ba] ++ M : mm_H) (some (.int (pl1 q)), ([.inr (3, [.ref 1, .ref 7, .ref 13, .ref 14, .ref 21, .ref 23, .ref 24]), .inr (0, [.ref 2, .ref 3, .ref 4, .ref 5, .ref 6]), x_it 256 pl0, x_it 256 ke0, x_it 4 sz0, x_it 96 se0, x_it 4 gr0, .inr (0, [.ref 8, .ref 9, .ref 10, .ref 11, .ref 12]), x_it 256 pl1, x_it 256 ke1, x_it 4 sz1, x_it 96 se1, x_it 4 gr1, x_it 8 im, .inr (1, [.ref 15, .ref 16, .ref 17, .ref 18, .ref 19, .ref 20, .int ro, .int co, .int mo, .long mi, .int ki]), x_it 2304 ce, x_it 2304 wo, x_it 31 pv, x_it 48 fa, x_it 10 pm, x_it 10 pw, .inr (2, [.ref 22]), x_lg 24 rw, x_it 24 fr, x_it 24 ba] ++ M : mm_H)) := by
  refine ⟨kq_7, rfl, rfl, ?_⟩
  refine mm_E.s rfl rfl rfl (fun _ => rfl) ?_
  refine mm_E.gf rfl rfl rfl rfl rfl ?_
  refine mm_E.s rfl rfl rfl (fun _ => rfl) ?_
  refine mm_E.ia rfl rfl rfl (mm_bd h (by decide)) (v := pl1 q) (by rw [mm_cl (by omega)]) ?_
  exact mm_E.ret rfl rfl rfl
theorem v_kept1 {pl0 ke0 sz0 se0 gr0 pl1 ke1 sz1 se1 gr1 im ce wo pv fa pm pw fr ba : Nat → Int32} {rw : Nat → Int64} {ro co mo : Int32} {mi : Int64} {ki : Int32} {M : mm_H} {q : Nat} (h : q < 256) : mm_EC kM 8 [.ref 7, .int (nI q)] ([.inr (3, [.ref 1, .ref 7, .ref 13, .ref 14, .ref 21, .ref 23, .ref 24]), .inr (0, [.ref 2, .ref 3, .ref 4, .ref 5, .ref 6]), x_it 256 pl0, x_it 256 ke0, x_it 4 sz0, x_it 96 se0, x_it 4 gr0, .inr (0, [.ref 8, .ref 9, .ref 10, .ref 11, .ref 12]), x_it 256 pl1, x_it 256 ke1, x_it 4 sz1, x_it 96 se1, x_it 4 gr1, x_it 8 im, .inr (1, [.ref 15, .ref 16, .ref 17, .ref 18, .ref 19, .ref 20, .int ro, .int co, .int mo, .long mi, .int ki]), x_it 2304 ce, x_it 2304 wo, x_it 31 pv, x_it 48 fa, x_it 10 pm, x_it 10 pw, .inr (2, [.ref 22]), x_lg 24 rw, x_it 24 fr, x_it 24 ba] ++ M : mm_H) (some (.int (ke1 q)), ([.inr (3, [.ref 1, .ref 7, .ref 13, .ref 14, .ref 21, .ref 23, .ref 24]), .inr (0, [.ref 2, .ref 3, .ref 4, .ref 5, .ref 6]), x_it 256 pl0, x_it 256 ke0, x_it 4 sz0, x_it 96 se0, x_it 4 gr0, .inr (0, [.ref 8, .ref 9, .ref 10, .ref 11, .ref 12]), x_it 256 pl1, x_it 256 ke1, x_it 4 sz1, x_it 96 se1, x_it 4 gr1, x_it 8 im, .inr (1, [.ref 15, .ref 16, .ref 17, .ref 18, .ref 19, .ref 20, .int ro, .int co, .int mo, .long mi, .int ki]), x_it 2304 ce, x_it 2304 wo, x_it 31 pv, x_it 48 fa, x_it 10 pm, x_it 10 pw, .inr (2, [.ref 22]), x_lg 24 rw, x_it 24 fr, x_it 24 ba] ++ M : mm_H)) := by
  refine ⟨kq_8, rfl, rfl, ?_⟩
  refine mm_E.s rfl rfl rfl (fun _ => rfl) ?_
  refine mm_E.gf rfl rfl rfl rfl rfl ?_
  refine mm_E.s rfl rfl rfl (fun _ => rfl) ?_
  refine mm_E.ia rfl rfl rfl (mm_bd h (by decide)) (v := ke1 q) (by rw [mm_cl (by omega)]) ?_
  exact mm_E.ret rfl rfl rfl
theorem v_keep1 {pl0 ke0 sz0 se0 gr0 pl1 ke1 sz1 se1 gr1 im ce wo pv fa pm pw fr ba : Nat → Int32} {rw : Nat → Int64} {ro co mo : Int32} {mi : Int64} {ki : Int32} {M : mm_H} {q : Nat} (h : q < 256) (x : Int32) : mm_EC kM 9 [.ref 7, .int (nI q), .int x] ([.inr (3, [.ref 1, .ref 7, .ref 13, .ref 14, .ref 21, .ref 23, .ref 24]), .inr (0, [.ref 2, .ref 3, .ref 4, .ref 5, .ref 6]), x_it 256 pl0, x_it 256 ke0, x_it 4 sz0, x_it 96 se0, x_it 4 gr0, .inr (0, [.ref 8, .ref 9, .ref 10, .ref 11, .ref 12]), x_it 256 pl1, x_it 256 ke1, x_it 4 sz1, x_it 96 se1, x_it 4 gr1, x_it 8 im, .inr (1, [.ref 15, .ref 16, .ref 17, .ref 18, .ref 19, .ref 20, .int ro, .int co, .int mo, .long mi, .int ki]), x_it 2304 ce, x_it 2304 wo, x_it 31 pv, x_it 48 fa, x_it 10 pm, x_it 10 pw, .inr (2, [.ref 22]), x_lg 24 rw, x_it 24 fr, x_it 24 ba] ++ M : mm_H) (none, ([.inr (3, [.ref 1, .ref 7, .ref 13, .ref 14, .ref 21, .ref 23, .ref 24]), .inr (0, [.ref 2, .ref 3, .ref 4, .ref 5, .ref 6]), x_it 256 pl0, x_it 256 ke0, x_it 4 sz0, x_it 96 se0, x_it 4 gr0, .inr (0, [.ref 8, .ref 9, .ref 10, .ref 11, .ref 12]), x_it 256 pl1, x_it 256 (upd ke1 q x), x_it 4 sz1, x_it 96 se1, x_it 4 gr1, x_it 8 im, .inr (1, [.ref 15, .ref 16, .ref 17, .ref 18, .ref 19, .ref 20, .int ro, .int co, .int mo, .long mi, .int ki]), x_it 2304 ce, x_it 2304 wo, x_it 31 pv, x_it 48 fa, x_it 10 pm, x_it 10 pw, .inr (2, [.ref 22]), x_lg 24 rw, x_it 24 fr, x_it 24 ba] ++ M : mm_H)) := by
  refine ⟨kq_9, rfl, rfl, ?_⟩
  refine mm_E.s rfl rfl rfl (fun _ => rfl) ?_
  refine mm_E.gf rfl rfl rfl rfl rfl ?_
  refine mm_E.s rfl rfl rfl (fun _ => rfl) ?_
  refine mm_E.s rfl rfl rfl (fun _ => rfl) ?_
  refine mm_E.is rfl rfl rfl (mm_bd h (by decide)) rfl ?_
  rw [mm_cl (by omega)]
  exact mm_E.ret rfl rfl rfl

def x_sc (x : Int32) : Int32 := if (x &&& 1) = 0 then 1 else -1
theorem v_sc {h : mm_H} (x : Int32) : mm_EC kM 56 [.int x] h (some (.int (x_sc x)), h) := by
  refine ⟨kq_56, rfl, rfl, ?_⟩
  by_cases h0 : (x &&& 1) = 0
  · rw [show x_sc x = 1 from if_pos h0]
    refine mm_E.s rfl rfl rfl (fun _ => rfl) ?_
    refine mm_E.s rfl rfl rfl (fun _ => rfl) ?_
    refine mm_E.s rfl rfl rfl (fun _ => rfl) ?_
    refine mm_E.s rfl rfl rfl (fun _ => if_pos h0) ?_
    refine mm_E.s rfl rfl rfl (fun _ => rfl) ?_
    refine mm_E.s rfl rfl rfl (fun _ => rfl) ?_
    exact mm_E.ret rfl rfl rfl
  · rw [show x_sc x = -1 from if_neg h0]
    refine mm_E.s rfl rfl rfl (fun _ => rfl) ?_
    refine mm_E.s rfl rfl rfl (fun _ => rfl) ?_
    refine mm_E.s rfl rfl rfl (fun _ => rfl) ?_
    refine mm_E.s rfl rfl rfl (fun _ => if_neg h0) ?_
    refine mm_E.s rfl rfl rfl (fun _ => rfl) ?_
    exact mm_E.ret rfl rfl rfl
/-- the counter's sign: of face b in simplex a -/
def x_sf (b a : Int32) : Int32 := if (b &&& (a ^^^ (Int32.ofInt (-1)))) = 0 ∧ x_bc (a &&& (b ^^^ (Int32.ofInt (-1)))) = 1 then x_sc (x_bc (a &&& ((a &&& (b ^^^ (Int32.ofInt (-1)))) - 1))) else 0
theorem v_sf {h : mm_H} (b a : Int32) : mm_EC kM 55 [.int b, .int a] h (some (.int (x_sf b a)), h) := by
  refine ⟨kq_55, rfl, rfl, ?_⟩
  by_cases h1 : (b &&& (a ^^^ (Int32.ofInt (-1)))) = 0
  · by_cases h2 : x_bc (a &&& (b ^^^ (Int32.ofInt (-1)))) = 1
    · rw [show x_sf b a = _ from if_pos ⟨h1, h2⟩]
      refine mm_E.s rfl rfl rfl (fun _ => rfl) ?_
      refine mm_E.s rfl rfl rfl (fun _ => rfl) ?_
      refine mm_E.s rfl rfl rfl (fun _ => rfl) ?_
      refine mm_E.s rfl rfl rfl (fun _ => rfl) ?_
      refine mm_E.s rfl rfl rfl (fun _ => rfl) ?_
      refine mm_E.s rfl rfl rfl (fun _ => rfl) ?_
      refine mm_E.s rfl rfl rfl (fun _ => rfl) ?_
      refine mm_E.s rfl rfl rfl (fun _ => rfl) ?_
      refine mm_E.s rfl rfl rfl (fun _ => rfl) ?_
      refine mm_E.s rfl rfl rfl (fun _ => rfl) ?_
      refine mm_E.s rfl rfl rfl (fun _ => rfl) ?_
      refine mm_E.s rfl rfl rfl (fun _ => if_pos h1) ?_
      refine mm_E.s rfl rfl rfl (fun _ => rfl) ?_
      refine mm_E.ic rfl rfl rfl rfl rfl (z_bc _) ?_
      refine mm_E.s rfl rfl rfl (fun _ => rfl) ?_
      refine mm_E.s rfl rfl rfl (fun _ => if_pos h2) ?_
      refine mm_E.s rfl rfl rfl (fun _ => rfl) ?_
      refine mm_E.s rfl rfl rfl (fun _ => rfl) ?_
      refine mm_E.s rfl rfl rfl (fun _ => rfl) ?_
      refine mm_E.s rfl rfl rfl (fun _ => rfl) ?_
      refine mm_E.s rfl rfl rfl (fun _ => rfl) ?_
      refine mm_E.ic rfl rfl rfl rfl rfl (z_bc _) ?_
      refine mm_E.ic rfl rfl rfl rfl rfl (v_sc _) ?_
      exact mm_E.ret rfl rfl rfl
    · rw [show x_sf b a = 0 from if_neg (fun q => h2 q.2)]
      refine mm_E.s rfl rfl rfl (fun _ => rfl) ?_
      refine mm_E.s rfl rfl rfl (fun _ => rfl) ?_
      refine mm_E.s rfl rfl rfl (fun _ => rfl) ?_
      refine mm_E.s rfl rfl rfl (fun _ => rfl) ?_
      refine mm_E.s rfl rfl rfl (fun _ => rfl) ?_
      refine mm_E.s rfl rfl rfl (fun _ => rfl) ?_
      refine mm_E.s rfl rfl rfl (fun _ => rfl) ?_
      refine mm_E.s rfl rfl rfl (fun _ => rfl) ?_
      refine mm_E.s rfl rfl rfl (fun _ => rfl) ?_
      refine mm_E.s rfl rfl rfl (fun _ => rfl) ?_
      refine mm_E.s rfl rfl rfl (fun _ => rfl) ?_
      refine mm_E.s rfl rfl rfl (fun _ => if_pos h1) ?_
      refine mm_E.s rfl rfl rfl (fun _ => rfl) ?_
      refine mm_E.ic rfl rfl rfl rfl rfl (z_bc _) ?_
      refine mm_E.s rfl rfl rfl (fun _ => rfl) ?_
      refine mm_E.s rfl rfl rfl (fun _ => if_neg h2) ?_
      refine mm_E.s rfl rfl rfl (fun _ => rfl) ?_
      exact mm_E.ret rfl rfl rfl
  · rw [show x_sf b a = 0 from if_neg (fun q => h1 q.1)]
    refine mm_E.s rfl rfl rfl (fun _ => rfl) ?_
    refine mm_E.s rfl rfl rfl (fun _ => rfl) ?_
    refine mm_E.s rfl rfl rfl (fun _ => rfl) ?_
    refine mm_E.s rfl rfl rfl (fun _ => rfl) ?_
    refine mm_E.s rfl rfl rfl (fun _ => rfl) ?_
    refine mm_E.s rfl rfl rfl (fun _ => rfl) ?_
    refine mm_E.s rfl rfl rfl (fun _ => rfl) ?_
    refine mm_E.s rfl rfl rfl (fun _ => rfl) ?_
    refine mm_E.s rfl rfl rfl (fun _ => rfl) ?_
    refine mm_E.s rfl rfl rfl (fun _ => rfl) ?_
    refine mm_E.s rfl rfl rfl (fun _ => rfl) ?_
    refine mm_E.s rfl rfl rfl (fun _ => if_neg h1) ?_
    refine mm_E.s rfl rfl rfl (fun _ => rfl) ?_
    exact mm_E.ret rfl rfl rfl

def x_ba (se ke : Nat → Int32) (a : Nat) (s : Int32) : Nat → Int32
  | 0 => 0
  | t + 1 => x_ba se ke a s t + x_sf s (se (a * 24 + t)) * ke (se (a * 24 + t)).toNatClampNeg
/-- the sets of dimension a that are noted are sets -/
abbrev x_sok (sz se : Nat → Int32) (a m : Nat) : Prop := sz a = nI m ∧ m ≤ 24 ∧ ∀ t, t < m → ∃ q : Nat, q < 256 ∧ se (a * 24 + t) = nI q
theorem v_ba0 {pl0 ke0 sz0 se0 gr0 pl1 ke1 sz1 se1 gr1 im ce wo pv fa pm pw fr ba : Nat → Int32} {rw : Nat → Int64} {ro co mo : Int32} {mi : Int64} {ki : Int32} {M : mm_H} {s : Int32} {a m : Nat} (hd : x_dm s + 1 = nI a) (ha : a < 4) (hm : x_sok sz0 se0 a m) : mm_EC kM 12 [.ref 1, .int s] ([.inr (3, [.ref 1, .ref 7, .ref 13, .ref 14, .ref 21, .ref 23, .ref 24]), .inr (0, [.ref 2, .ref 3, .ref 4, .ref 5, .ref 6]), x_it 256 pl0, x_it 256 ke0, x_it 4 sz0, x_it 96 se0, x_it 4 gr0, .inr (0, [.ref 8, .ref 9, .ref 10, .ref 11, .ref 12]), x_it 256 pl1, x_it 256 ke1, x_it 4 sz1, x_it 96 se1, x_it 4 gr1, x_it 8 im, .inr (1, [.ref 15, .ref 16, .ref 17, .ref 18, .ref 19, .ref 20, .int ro, .int co, .int mo, .long mi, .int ki]), x_it 2304 ce, x_it 2304 wo, x_it 31 pv, x_it 48 fa, x_it 10 pm, x_it 10 pw, .inr (2, [.ref 22]), x_lg 24 rw, x_it 24 fr, x_it 24 ba] ++ M : mm_H) (some (.int (x_ba se0 ke0 a s m)), ([.inr (3, [.ref 1, .ref 7, .ref 13, .ref 14, .ref 21, .ref 23, .ref 24]), .inr (0, [.ref 2, .ref 3, .ref 4, .ref 5, .ref 6]), x_it 256 pl0, x_it 256 ke0, x_it 4 sz0, x_it 96 se0, x_it 4 gr0, .inr (0, [.ref 8, .ref 9, .ref 10, .ref 11, .ref 12]), x_it 256 pl1, x_it 256 ke1, x_it 4 sz1, x_it 96 se1, x_it 4 gr1, x_it 8 im, .inr (1, [.ref 15, .ref 16, .ref 17, .ref 18, .ref 19, .ref 20, .int ro, .int co, .int mo, .long mi, .int ki]), x_it 2304 ce, x_it 2304 wo, x_it 31 pv, x_it 48 fa, x_it 10 pm, x_it 10 pw, .inr (2, [.ref 22]), x_lg 24 rw, x_it 24 fr, x_it 24 ba] ++ M : mm_H)) := by
  have hsz : mm_EC kM 4 [.ref 1, .int (nI a)] ([.inr (3, [.ref 1, .ref 7, .ref 13, .ref 14, .ref 21, .ref 23, .ref 24]), .inr (0, [.ref 2, .ref 3, .ref 4, .ref 5, .ref 6]), x_it 256 pl0, x_it 256 ke0, x_it 4 sz0, x_it 96 se0, x_it 4 gr0, .inr (0, [.ref 8, .ref 9, .ref 10, .ref 11, .ref 12]), x_it 256 pl1, x_it 256 ke1, x_it 4 sz1, x_it 96 se1, x_it 4 gr1, x_it 8 im, .inr (1, [.ref 15, .ref 16, .ref 17, .ref 18, .ref 19, .ref 20, .int ro, .int co, .int mo, .long mi, .int ki]), x_it 2304 ce, x_it 2304 wo, x_it 31 pv, x_it 48 fa, x_it 10 pm, x_it 10 pw, .inr (2, [.ref 22]), x_lg 24 rw, x_it 24 fr, x_it 24 ba] ++ M : mm_H) (some (.int (nI m)), ([.inr (3, [.ref 1, .ref 7, .ref 13, .ref 14, .ref 21, .ref 23, .ref 24]), .inr (0, [.ref 2, .ref 3, .ref 4, .ref 5, .ref 6]), x_it 256 pl0, x_it 256 ke0, x_it 4 sz0, x_it 96 se0, x_it 4 gr0, .inr (0, [.ref 8, .ref 9, .ref 10, .ref 11, .ref 12]), x_it 256 pl1, x_it 256 ke1, x_it 4 sz1, x_it 96 se1, x_it 4 gr1, x_it 8 im, .inr (1, [.ref 15, .ref 16, .ref 17, .ref 18, .ref 19, .ref 20, .int ro, .int co, .int mo, .long mi, .int ki]), x_it 2304 ce, x_it 2304 wo, x_it 31 pv, x_it 48 fa, x_it 10 pm, x_it 10 pw, .inr (2, [.ref 22]), x_lg 24 rw, x_it 24 fr, x_it 24 ba] ++ M : mm_H)) := by
    have z := v_size0 (pl0 := pl0) (ke0 := ke0) (sz0 := sz0) (se0 := se0) (gr0 := gr0) (pl1 := pl1) (ke1 := ke1) (sz1 := sz1) (se1 := se1) (gr1 := gr1) (im := im) (ce := ce) (wo := wo) (pv := pv) (fa := fa) (pm := pm) (pw := pw) (fr := fr) (ba := ba) (rw := rw) (ro := ro) (co := co) (mo := mo) (mi := mi) (ki := ki) (M := M) (nI a)
    rw [if_pos ⟨nI_pos (by omega), nI_ge (a := a) (b := 4) ha (by decide)⟩, mm_cl (by omega), hm.1] at z
    exact z
  refine ⟨kq_12, rfl, rfl, ?_⟩
  refine mm_E.s rfl rfl rfl (fun _ => rfl) ?_
  refine mm_E.ic rfl rfl rfl rfl rfl (z_dm _) ?_
  refine mm_E.s rfl rfl rfl (fun _ => rfl) ?_
  refine mm_E.s rfl rfl rfl (fun _ => rfl) ?_
  refine mm_E.ti (nI a) hd ?_
  refine mm_E.s rfl rfl rfl (fun _ => rfl) ?_
  refine mm_E.s rfl rfl rfl (fun _ => rfl) ?_
  refine mm_E.s rfl rfl rfl (fun _ => rfl) ?_
  refine mm_E.s rfl rfl rfl (fun _ => rfl) ?_
  refine mm_E.s rfl rfl rfl (fun _ => rfl) ?_
  have key : ∀ (d t : Nat) (y : Option Value), t + d = m → mm_E kM none 12 12 [some (.ref 1), some (.int s), some (.int (nI a)), some (.int (x_ba se0 ke0 a s t)), some (.int (nI t)), y] [] ([.inr (3, [.ref 1, .ref 7, .ref 13, .ref 14, .ref 21, .ref 23, .ref 24]), .inr (0, [.ref 2, .ref 3, .ref 4, .ref 5, .ref 6]), x_it 256 pl0, x_it 256 ke0, x_it 4 sz0, x_it 96 se0, x_it 4 gr0, .inr (0, [.ref 8, .ref 9, .ref 10, .ref 11, .ref 12]), x_it 256 pl1, x_it 256 ke1, x_it 4 sz1, x_it 96 se1, x_it 4 gr1, x_it 8 im, .inr (1, [.ref 15, .ref 16, .ref 17, .ref 18, .ref 19, .ref 20, .int ro, .int co, .int mo, .long mi, .int ki]), x_it 2304 ce, x_it 2304 wo, x_it 31 pv, x_it 48 fa, x_it 10 pm, x_it 10 pw, .inr (2, [.ref 22]), x_lg 24 rw, x_it 24 fr, x_it 24 ba] ++ M : mm_H) (some (.int (x_ba se0 ke0 a s m)), ([.inr (3, [.ref 1, .ref 7, .ref 13, .ref 14, .ref 21, .ref 23, .ref 24]), .inr (0, [.ref 2, .ref 3, .ref 4, .ref 5, .ref 6]), x_it 256 pl0, x_it 256 ke0, x_it 4 sz0, x_it 96 se0, x_it 4 gr0, .inr (0, [.ref 8, .ref 9, .ref 10, .ref 11, .ref 12]), x_it 256 pl1, x_it 256 ke1, x_it 4 sz1, x_it 96 se1, x_it 4 gr1, x_it 8 im, .inr (1, [.ref 15, .ref 16, .ref 17, .ref 18, .ref 19, .ref 20, .int ro, .int co, .int mo, .long mi, .int ki]), x_it 2304 ce, x_it 2304 wo, x_it 31 pv, x_it 48 fa, x_it 10 pm, x_it 10 pw, .inr (2, [.ref 22]), x_lg 24 rw, x_it 24 fr, x_it 24 ba] ++ M : mm_H)) := by
    intro d
    induction d with
    | zero =>
      intro t y ht
      have : t = m := by omega
      subst this
      refine mm_E.s rfl rfl rfl (fun _ => rfl) ?_
      refine mm_E.s rfl rfl rfl (fun _ => rfl) ?_
      refine mm_E.s rfl rfl rfl (fun _ => rfl) ?_
      refine mm_E.iv rfl rfl rfl rfl rfl rfl hsz ?_
      refine mm_E.s rfl rfl rfl (fun _ => if_pos (nI_le (Nat.le_refl t) (by omega))) ?_
      refine mm_E.s rfl rfl rfl (fun _ => rfl) ?_
      exact mm_E.ret rfl rfl rfl
    | succ d ih =>
      intro t y ht
      obtain ⟨q, hq, eq⟩ := hm.2.2 t (by omega)
      have z := ih (t + 1) (some (.int (nI q))) (by omega)
      rw [← nI_1, show x_ba se0 ke0 a s (t + 1) = x_ba se0 ke0 a s t + x_sf s (nI q) * ke0 q by
        show x_ba se0 ke0 a s t + x_sf s (se0 (a * 24 + t)) * ke0 (se0 (a * 24 + t)).toNatClampNeg = _
        rw [eq, mm_cl (by omega)]] at z
      refine mm_E.s rfl rfl rfl (fun _ => rfl) ?_
      refine mm_E.s rfl rfl rfl (fun _ => rfl) ?_
      refine mm_E.s rfl rfl rfl (fun _ => rfl) ?_
      refine mm_E.iv rfl rfl rfl rfl rfl rfl hsz ?_
      refine mm_E.s rfl rfl rfl (fun _ => if_neg (nI_ge (a := t) (b := m) (by omega) (by omega))) ?_
      refine mm_E.s rfl rfl rfl (fun _ => rfl) ?_
      refine mm_E.s rfl rfl rfl (fun _ => rfl) ?_
      refine mm_E.s rfl rfl rfl (fun _ => rfl) ?_
      refine mm_E.iv rfl rfl rfl rfl rfl rfl (v_setAt0 (a := a) (j := t) (by omega)) ?_
      refine mm_E.ti (nI q) eq ?_
      refine mm_E.s rfl rfl rfl (fun _ => rfl) ?_
      refine mm_E.s rfl rfl rfl (fun _ => rfl) ?_
      refine mm_E.s rfl rfl rfl (fun _ => rfl) ?_
      refine mm_E.s rfl rfl rfl (fun _ => rfl) ?_
      refine mm_E.ic rfl rfl rfl rfl rfl (v_sf _ _) ?_
      refine mm_E.s rfl rfl rfl (fun _ => rfl) ?_
      refine mm_E.gf rfl rfl rfl rfl rfl ?_
      refine mm_E.s rfl rfl rfl (fun _ => rfl) ?_
      refine mm_E.ia rfl rfl rfl (mm_bd hq (by decide)) (v := ke0 q) (by rw [mm_cl (by omega)]) ?_
      refine mm_E.s rfl rfl rfl (fun _ => rfl) ?_
      refine mm_E.s rfl rfl rfl (fun _ => rfl) ?_
      refine mm_E.s rfl rfl rfl (fun _ => rfl) ?_
      refine mm_E.s rfl rfl rfl (fun _ => rfl) ?_
      refine mm_E.s rfl rfl rfl (fun _ => rfl) ?_
      exact z
  exact key m 0 none (by omega)

theorem v_ba1 {pl0 ke0 sz0 se0 gr0 pl1 ke1 sz1 se1 gr1 im ce wo pv fa pm pw fr ba : Nat → Int32} {rw : Nat → Int64} {ro co mo : Int32} {mi : Int64} {ki : Int32} {M : mm_H} {s : Int32} {a m : Nat} (hd : x_dm s + 1 = nI a) (ha : a < 4) (hm : x_sok sz1 se1 a m) : mm_EC kM 12 [.ref 7, .int s] ([.inr (3, [.ref 1, .ref 7, .ref 13, .ref 14, .ref 21, .ref 23, .ref 24]), .inr (0, [.ref 2, .ref 3, .ref 4, .ref 5, .ref 6]), x_it 256 pl0, x_it 256 ke0, x_it 4 sz0, x_it 96 se0, x_it 4 gr0, .inr (0, [.ref 8, .ref 9, .ref 10, .ref 11, .ref 12]), x_it 256 pl1, x_it 256 ke1, x_it 4 sz1, x_it 96 se1, x_it 4 gr1, x_it 8 im, .inr (1, [.ref 15, .ref 16, .ref 17, .ref 18, .ref 19, .ref 20, .int ro, .int co, .int mo, .long mi, .int ki]), x_it 2304 ce, x_it 2304 wo, x_it 31 pv, x_it 48 fa, x_it 10 pm, x_it 10 pw, .inr (2, [.ref 22]), x_lg 24 rw, x_it 24 fr, x_it 24 ba] ++ M : mm_H) (some (.int (x_ba se1 ke1 a s m)), ([.inr (3, [.ref 1, .ref 7, .ref 13, .ref 14, .ref 21, .ref 23, .ref 24]), .inr (0, [.ref 2, .ref 3, .ref 4, .ref 5, .ref 6]), x_it 256 pl0, x_it 256 ke0, x_it 4 sz0, x_it 96 se0, x_it 4 gr0, .inr (0, [.ref 8, .ref 9, .ref 10, .ref 11, .ref 12]), x_it 256 pl1, x_it 256 ke1, x_it 4 sz1, x_it 96 se1, x_it 4 gr1, x_it 8 im, .inr (1, [.ref 15, .ref 16, .ref 17, .ref 18, .ref 19, .ref 20, .int ro, .int co, .int mo, .long mi, .int ki]), x_it 2304 ce, x_it 2304 wo, x_it 31 pv, x_it 48 fa, x_it 10 pm, x_it 10 pw, .inr (2, [.ref 22]), x_lg 24 rw, x_it 24 fr, x_it 24 ba] ++ M : mm_H)) := by
  have hsz : mm_EC kM 4 [.ref 7, .int (nI a)] ([.inr (3, [.ref 1, .ref 7, .ref 13, .ref 14, .ref 21, .ref 23, .ref 24]), .inr (0, [.ref 2, .ref 3, .ref 4, .ref 5, .ref 6]), x_it 256 pl0, x_it 256 ke0, x_it 4 sz0, x_it 96 se0, x_it 4 gr0, .inr (0, [.ref 8, .ref 9, .ref 10, .ref 11, .ref 12]), x_it 256 pl1, x_it 256 ke1, x_it 4 sz1, x_it 96 se1, x_it 4 gr1, x_it 8 im, .inr (1, [.ref 15, .ref 16, .ref 17, .ref 18, .ref 19, .ref 20, .int ro, .int co, .int mo, .long mi, .int ki]), x_it 2304 ce, x_it 2304 wo, x_it 31 pv, x_it 48 fa, x_it 10 pm, x_it 10 pw, .inr (2, [.ref 22]), x_lg 24 rw, x_it 24 fr, x_it 24 ba] ++ M : mm_H) (some (.int (nI m)), ([.inr (3, [.ref 1, .ref 7, .ref 13, .ref 14, .ref 21, .ref 23, .ref 24]), .inr (0, [.ref 2, .ref 3, .ref 4, .ref 5, .ref 6]), x_it 256 pl0, x_it 256 ke0, x_it 4 sz0, x_it 96 se0, x_it 4 gr0, .inr (0, [.ref 8, .ref 9, .ref 10, .ref 11, .ref 12]), x_it 256 pl1, x_it 256 ke1, x_it 4 sz1, x_it 96 se1, x_it 4 gr1, x_it 8 im, .inr (1, [.ref 15, .ref 16, .ref 17, .ref 18, .ref 19, .ref 20, .int ro, .int co, .int mo, .long mi, .int ki]), x_it 2304 ce, x_it 2304 wo, x_it 31 pv, x_it 48 fa, x_it 10 pm, x_it 10 pw, .inr (2, [.ref 22]), x_lg 24 rw, x_it 24 fr, x_it 24 ba] ++ M : mm_H)) := by
    have z := v_size1 (pl0 := pl0) (ke0 := ke0) (sz0 := sz0) (se0 := se0) (gr0 := gr0) (pl1 := pl1) (ke1 := ke1) (sz1 := sz1) (se1 := se1) (gr1 := gr1) (im := im) (ce := ce) (wo := wo) (pv := pv) (fa := fa) (pm := pm) (pw := pw) (fr := fr) (ba := ba) (rw := rw) (ro := ro) (co := co) (mo := mo) (mi := mi) (ki := ki) (M := M) (nI a)
    rw [if_pos ⟨nI_pos (by omega), nI_ge (a := a) (b := 4) ha (by decide)⟩, mm_cl (by omega), hm.1] at z
    exact z
  refine ⟨kq_12, rfl, rfl, ?_⟩
  refine mm_E.s rfl rfl rfl (fun _ => rfl) ?_
  refine mm_E.ic rfl rfl rfl rfl rfl (z_dm _) ?_
  refine mm_E.s rfl rfl rfl (fun _ => rfl) ?_
  refine mm_E.s rfl rfl rfl (fun _ => rfl) ?_
  refine mm_E.ti (nI a) hd ?_
  refine mm_E.s rfl rfl rfl (fun _ => rfl) ?_
  refine mm_E.s rfl rfl rfl (fun _ => rfl) ?_
  refine mm_E.s rfl rfl rfl (fun _ => rfl) ?_
  refine mm_E.s rfl rfl rfl (fun _ => rfl) ?_
  refine mm_E.s rfl rfl rfl (fun _ => rfl) ?_
  have key : ∀ (d t : Nat) (y : Option Value), t + d = m → mm_E kM none 12 12 [some (.ref 7), some (.int s), some (.int (nI a)), some (.int (x_ba se1 ke1 a s t)), some (.int (nI t)), y] [] ([.inr (3, [.ref 1, .ref 7, .ref 13, .ref 14, .ref 21, .ref 23, .ref 24]), .inr (0, [.ref 2, .ref 3, .ref 4, .ref 5, .ref 6]), x_it 256 pl0, x_it 256 ke0, x_it 4 sz0, x_it 96 se0, x_it 4 gr0, .inr (0, [.ref 8, .ref 9, .ref 10, .ref 11, .ref 12]), x_it 256 pl1, x_it 256 ke1, x_it 4 sz1, x_it 96 se1, x_it 4 gr1, x_it 8 im, .inr (1, [.ref 15, .ref 16, .ref 17, .ref 18, .ref 19, .ref 20, .int ro, .int co, .int mo, .long mi, .int ki]), x_it 2304 ce, x_it 2304 wo, x_it 31 pv, x_it 48 fa, x_it 10 pm, x_it 10 pw, .inr (2, [.ref 22]), x_lg 24 rw, x_it 24 fr, x_it 24 ba] ++ M : mm_H) (some (.int (x_ba se1 ke1 a s m)), ([.inr (3, [.ref 1, .ref 7, .ref 13, .ref 14, .ref 21, .ref 23, .ref 24]), .inr (0, [.ref 2, .ref 3, .ref 4, .ref 5, .ref 6]), x_it 256 pl0, x_it 256 ke0, x_it 4 sz0, x_it 96 se0, x_it 4 gr0, .inr (0, [.ref 8, .ref 9, .ref 10, .ref 11, .ref 12]), x_it 256 pl1, x_it 256 ke1, x_it 4 sz1, x_it 96 se1, x_it 4 gr1, x_it 8 im, .inr (1, [.ref 15, .ref 16, .ref 17, .ref 18, .ref 19, .ref 20, .int ro, .int co, .int mo, .long mi, .int ki]), x_it 2304 ce, x_it 2304 wo, x_it 31 pv, x_it 48 fa, x_it 10 pm, x_it 10 pw, .inr (2, [.ref 22]), x_lg 24 rw, x_it 24 fr, x_it 24 ba] ++ M : mm_H)) := by
    intro d
    induction d with
    | zero =>
      intro t y ht
      have : t = m := by omega
      subst this
      refine mm_E.s rfl rfl rfl (fun _ => rfl) ?_
      refine mm_E.s rfl rfl rfl (fun _ => rfl) ?_
      refine mm_E.s rfl rfl rfl (fun _ => rfl) ?_
      refine mm_E.iv rfl rfl rfl rfl rfl rfl hsz ?_
      refine mm_E.s rfl rfl rfl (fun _ => if_pos (nI_le (Nat.le_refl t) (by omega))) ?_
      refine mm_E.s rfl rfl rfl (fun _ => rfl) ?_
      exact mm_E.ret rfl rfl rfl
    | succ d ih =>
      intro t y ht
      obtain ⟨q, hq, eq⟩ := hm.2.2 t (by omega)
      have z := ih (t + 1) (some (.int (nI q))) (by omega)
      rw [← nI_1, show x_ba se1 ke1 a s (t + 1) = x_ba se1 ke1 a s t + x_sf s (nI q) * ke1 q by
        show x_ba se1 ke1 a s t + x_sf s (se1 (a * 24 + t)) * ke1 (se1 (a * 24 + t)).toNatClampNeg = _
        rw [eq, mm_cl (by omega)]] at z
      refine mm_E.s rfl rfl rfl (fun _ => rfl) ?_
      refine mm_E.s rfl rfl rfl (fun _ => rfl) ?_
      refine mm_E.s rfl rfl rfl (fun _ => rfl) ?_
      refine mm_E.iv rfl rfl rfl rfl rfl rfl hsz ?_
      refine mm_E.s rfl rfl rfl (fun _ => if_neg (nI_ge (a := t) (b := m) (by omega) (by omega))) ?_
      refine mm_E.s rfl rfl rfl (fun _ => rfl) ?_
      refine mm_E.s rfl rfl rfl (fun _ => rfl) ?_
      refine mm_E.s rfl rfl rfl (fun _ => rfl) ?_
      refine mm_E.iv rfl rfl rfl rfl rfl rfl (v_setAt1 (a := a) (j := t) (by omega)) ?_
      refine mm_E.ti (nI q) eq ?_
      refine mm_E.s rfl rfl rfl (fun _ => rfl) ?_
      refine mm_E.s rfl rfl rfl (fun _ => rfl) ?_
      refine mm_E.s rfl rfl rfl (fun _ => rfl) ?_
      refine mm_E.s rfl rfl rfl (fun _ => rfl) ?_
      refine mm_E.ic rfl rfl rfl rfl rfl (v_sf _ _) ?_
      refine mm_E.s rfl rfl rfl (fun _ => rfl) ?_
      refine mm_E.gf rfl rfl rfl rfl rfl ?_
      refine mm_E.s rfl rfl rfl (fun _ => rfl) ?_
      refine mm_E.ia rfl rfl rfl (mm_bd hq (by decide)) (v := ke1 q) (by rw [mm_cl (by omega)]) ?_
      refine mm_E.s rfl rfl rfl (fun _ => rfl) ?_
      refine mm_E.s rfl rfl rfl (fun _ => rfl) ?_
      refine mm_E.s rfl rfl rfl (fun _ => rfl) ?_
      refine mm_E.s rfl rfl rfl (fun _ => rfl) ?_
      refine mm_E.s rfl rfl rfl (fun _ => rfl) ?_
      exact z
  exact key m 0 none (by omega)

def x_ig (f : Nat → Int32) (s : Int32) : Nat → Int32
  | 0 => 0
  | v + 1 => if ((s >>> (nI v &&& 31)) &&& 1) = 0 then x_ig f s v else x_ig f s v ||| (1 : Int32) <<< (f v &&& 31)
theorem v_ig {pl0 ke0 sz0 se0 gr0 pl1 ke1 sz1 se1 gr1 im ce wo pv fa pm pw fr ba : Nat → Int32} {rw : Nat → Int64} {ro co mo : Int32} {mi : Int64} {ki : Int32} {M : mm_H} (s : Int32) : mm_EC kM 62 [.ref 0, .int s] ([.inr (3, [.ref 1, .ref 7, .ref 13, .ref 14, .ref 21, .ref 23, .ref 24]), .inr (0, [.ref 2, .ref 3, .ref 4, .ref 5, .ref 6]), x_it 256 pl0, x_it 256 ke0, x_it 4 sz0, x_it 96 se0, x_it 4 gr0, .inr (0, [.ref 8, .ref 9, .ref 10, .ref 11, .ref 12]), x_it 256 pl1, x_it 256 ke1, x_it 4 sz1, x_it 96 se1, x_it 4 gr1, x_it 8 im, .inr (1, [.ref 15, .ref 16, .ref 17, .ref 18, .ref 19, .ref 20, .int ro, .int co, .int mo, .long mi, .int ki]), x_it 2304 ce, x_it 2304 wo, x_it 31 pv, x_it 48 fa, x_it 10 pm, x_it 10 pw, .inr (2, [.ref 22]), x_lg 24 rw, x_it 24 fr, x_it 24 ba] ++ M : mm_H) (some (.int (x_ig im s 8)), ([.inr (3, [.ref 1, .ref 7, .ref 13, .ref 14, .ref 21, .ref 23, .ref 24]), .inr (0, [.ref 2, .ref 3, .ref 4, .ref 5, .ref 6]), x_it 256 pl0, x_it 256 ke0, x_it 4 sz0, x_it 96 se0, x_it 4 gr0, .inr (0, [.ref 8, .ref 9, .ref 10, .ref 11, .ref 12]), x_it 256 pl1, x_it 256 ke1, x_it 4 sz1, x_it 96 se1, x_it 4 gr1, x_it 8 im, .inr (1, [.ref 15, .ref 16, .ref 17, .ref 18, .ref 19, .ref 20, .int ro, .int co, .int mo, .long mi, .int ki]), x_it 2304 ce, x_it 2304 wo, x_it 31 pv, x_it 48 fa, x_it 10 pm, x_it 10 pw, .inr (2, [.ref 22]), x_lg 24 rw, x_it 24 fr, x_it 24 ba] ++ M : mm_H)) := by
  refine ⟨kq_62, rfl, rfl, ?_⟩
  refine mm_E.s rfl rfl rfl (fun _ => rfl) ?_
  refine mm_E.s rfl rfl rfl (fun _ => rfl) ?_
  refine mm_E.s rfl rfl rfl (fun _ => rfl) ?_
  refine mm_E.s rfl rfl rfl (fun _ => rfl) ?_
  refine mm_E.loop (fun t => [some (.ref 0), some (.int s), some (.int (x_ig im s t)), some (.int (nI t))]) (fun _ => ([.inr (3, [.ref 1, .ref 7, .ref 13, .ref 14, .ref 21, .ref 23, .ref 24]), .inr (0, [.ref 2, .ref 3, .ref 4, .ref 5, .ref 6]), x_it 256 pl0, x_it 256 ke0, x_it 4 sz0, x_it 96 se0, x_it 4 gr0, .inr (0, [.ref 8, .ref 9, .ref 10, .ref 11, .ref 12]), x_it 256 pl1, x_it 256 ke1, x_it 4 sz1, x_it 96 se1, x_it 4 gr1, x_it 8 im, .inr (1, [.ref 15, .ref 16, .ref 17, .ref 18, .ref 19, .ref 20, .int ro, .int co, .int mo, .long mi, .int ki]), x_it 2304 ce, x_it 2304 wo, x_it 31 pv, x_it 48 fa, x_it 10 pm, x_it 10 pw, .inr (2, [.ref 22]), x_lg 24 rw, x_it 24 fr, x_it 24 ba] ++ M : mm_H)) 8 ?_ ?_
  · skip
    refine mm_E.s rfl rfl rfl (fun _ => rfl) ?_
    refine mm_E.s rfl rfl rfl (fun _ => rfl) ?_
    refine mm_E.s rfl rfl rfl (fun _ => rfl) ?_
    refine mm_E.s rfl rfl rfl (fun _ => rfl) ?_
    exact mm_E.ret rfl rfl rfl
  · intro t ht ih
    rw [← nI_1] at ih
    by_cases h5 : ((s >>> (nI t &&& 31)) &&& 1) = 0
    · rw [show x_ig im s (t + 1) = x_ig im s t from if_pos h5] at ih
      refine mm_E.s rfl rfl rfl (fun _ => rfl) ?_
      refine mm_E.s rfl rfl rfl (fun _ => rfl) ?_
      refine mm_E.s rfl rfl rfl (fun _ => if_neg (nI_ge (a := t) (b := 8) (by omega) (by decide))) ?_
      refine mm_E.s rfl rfl rfl (fun _ => rfl) ?_
      refine mm_E.s rfl rfl rfl (fun _ => rfl) ?_
      refine mm_E.s rfl rfl rfl (fun _ => rfl) ?_
      refine mm_E.s rfl rfl rfl (fun _ => rfl) ?_
      refine mm_E.s rfl rfl rfl (fun _ => rfl) ?_
      refine mm_E.s rfl rfl rfl (fun _ => if_pos h5) ?_
      refine mm_E.s rfl rfl rfl (fun _ => rfl) ?_
      refine mm_E.s rfl rfl rfl (fun _ => rfl) ?_
      exact ih
    · rw [show x_ig im s (t + 1) = _ from if_neg h5] at ih
      refine mm_E.s rfl rfl rfl (fun _ => rfl) ?_
      refine mm_E.s rfl rfl rfl (fun _ => rfl) ?_
      refine mm_E.s rfl rfl rfl (fun _ => if_neg (nI_ge (a := t) (b := 8) (by omega) (by decide))) ?_
      refine mm_E.s rfl rfl rfl (fun _ => rfl) ?_
      refine mm_E.s rfl rfl rfl (fun _ => rfl) ?_
      refine mm_E.s rfl rfl rfl (fun _ => rfl) ?_
      refine mm_E.s rfl rfl rfl (fun _ => rfl) ?_
      refine mm_E.s rfl rfl rfl (fun _ => rfl) ?_
      refine mm_E.s rfl rfl rfl (fun _ => if_neg h5) ?_
      refine mm_E.s rfl rfl rfl (fun _ => rfl) ?_
      refine mm_E.s rfl rfl rfl (fun _ => rfl) ?_
      refine mm_E.s rfl rfl rfl (fun _ => rfl) ?_
      refine mm_E.gf rfl rfl rfl rfl rfl ?_
      refine mm_E.s rfl rfl rfl (fun _ => rfl) ?_
      refine mm_E.ia rfl rfl rfl (mm_bd (by omega) (by decide)) (v := im t) (by rw [mm_cl (by omega)]) ?_
      refine mm_E.s rfl rfl rfl (fun _ => rfl) ?_
      refine mm_E.s rfl rfl rfl (fun _ => rfl) ?_
      refine mm_E.s rfl rfl rfl (fun _ => rfl) ?_
      refine mm_E.s rfl rfl rfl (fun _ => rfl) ?_
      refine mm_E.s rfl rfl rfl (fun _ => rfl) ?_
      exact ih
theorem x_bit01 (x : Int32) : (x &&& 1) = 0 ∨ (x &&& 1) = 1 := by
  obtain ⟨j, hj, e⟩ := pk_andE x (m := 1) 1 rfl
  rw [e]
  rcases (show j = 0 ∨ j = 1 by omega) with rfl | rfl
  · exact Or.inl rfl
  · exact Or.inr rfl
theorem x_ig_io (f : Nat → Int32) (s : Int32) : ∀ t, x_ig f s t = x_io f s t
  | 0 => rfl
  | t + 1 => by
    have ih := x_ig_io f s t
    rcases x_bit01 (s >>> (nI t &&& 31)) with e | e
    · rw [show x_ig f s (t + 1) = x_ig f s t from if_pos e, show x_io f s (t + 1) = x_io f s t from if_neg (by rw [e]; decide), ih]
    · rw [show x_ig f s (t + 1) = _ from if_neg (by rw [e]; decide), show x_io f s (t + 1) = _ from if_pos e, ih]

