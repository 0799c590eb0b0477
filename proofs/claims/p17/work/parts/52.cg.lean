theorem v_cx0 {pl0 ke0 sz0 se0 gr0 pl1 ke1 sz1 se1 gr1 im ce wo pv fa pm pw fr ba : Nat → Int32} {rw : Nat → Int64} {ro co mo : Int32} {mi : Int64} {ki : Int32} {M : mm_H} : mm_EC kM 52 [.ref 0, .int 0] ([.inr (3, [.ref 1, .ref 7, .ref 13, .ref 14, .ref 21, .ref 23, .ref 24]), .inr (0, [.ref 2, .ref 3, .ref 4, .ref 5, .ref 6]), x_it 256 pl0, x_it 256 ke0, x_it 4 sz0, x_it 96 se0, x_it 4 gr0, .inr (0, [.ref 8, .ref 9, .ref 10, .ref 11, .ref 12]), x_it 256 pl1, x_it 256 ke1, x_it 4 sz1, x_it 96 se1, x_it 4 gr1, x_it 8 im, .inr (1, [.ref 15, .ref 16, .ref 17, .ref 18, .ref 19, .ref 20, .int ro, .int co, .int mo, .long mi, .int ki]), x_it 2304 ce, x_it 2304 wo, x_it 31 pv, x_it 48 fa, x_it 10 pm, x_it 10 pw, .inr (2, [.ref 22]), x_lg 24 rw, x_it 24 fr, x_it 24 ba] ++ M : mm_H) (some (.ref 1), ([.inr (3, [.ref 1, .ref 7, .ref 13, .ref 14, .ref 21, .ref 23, .ref 24]), .inr (0, [.ref 2, .ref 3, .ref 4, .ref 5, .ref 6]), x_it 256 pl0, x_it 256 ke0, x_it 4 sz0, x_it 96 se0, x_it 4 gr0, .inr (0, [.ref 8, .ref 9, .ref 10, .ref 11, .ref 12]), x_it 256 pl1, x_it 256 ke1, x_it 4 sz1, x_it 96 se1, x_it 4 gr1, x_it 8 im, .inr (1, [.ref 15, .ref 16, .ref 17, .ref 18, .ref 19, .ref 20, .int ro, .int co, .int mo, .long mi, .int ki]), x_it 2304 ce, x_it 2304 wo, x_it 31 pv, x_it 48 fa, x_it 10 pm, x_it 10 pw, .inr (2, [.ref 22]), x_lg 24 rw, x_it 24 fr, x_it 24 ba] ++ M : mm_H)) := by
  refine ⟨kq_52, rfl, rfl, ?_⟩
  refine mm_E.s rfl rfl rfl (fun _ => rfl) ?_
  refine mm_E.s rfl rfl rfl (fun _ => rfl) ?_
  refine mm_E.s rfl rfl rfl (fun _ => rfl) ?_
  refine mm_E.gf rfl rfl rfl rfl rfl ?_
  exact mm_E.ret rfl rfl rfl

theorem v_cx1 {pl0 ke0 sz0 se0 gr0 pl1 ke1 sz1 se1 gr1 im ce wo pv fa pm pw fr ba : Nat → Int32} {rw : Nat → Int64} {ro co mo : Int32} {mi : Int64} {ki : Int32} {M : mm_H} : mm_EC kM 52 [.ref 0, .int 1] ([.inr (3, [.ref 1, .ref 7, .ref 13, .ref 14, .ref 21, .ref 23, .ref 24]), .inr (0, [.ref 2, .ref 3, .ref 4, .ref 5, .ref 6]), x_it 256 pl0, x_it 256 ke0, x_it 4 sz0, x_it 96 se0, x_it 4 gr0, .inr (0, [.ref 8, .ref 9, .ref 10, .ref 11, .ref 12]), x_it 256 pl1, x_it 256 ke1, x_it 4 sz1, x_it 96 se1, x_it 4 gr1, x_it 8 im, .inr (1, [.ref 15, .ref 16, .ref 17, .ref 18, .ref 19, .ref 20, .int ro, .int co, .int mo, .long mi, .int ki]), x_it 2304 ce, x_it 2304 wo, x_it 31 pv, x_it 48 fa, x_it 10 pm, x_it 10 pw, .inr (2, [.ref 22]), x_lg 24 rw, x_it 24 fr, x_it 24 ba] ++ M : mm_H) (some (.ref 7), ([.inr (3, [.ref 1, .ref 7, .ref 13, .ref 14, .ref 21, .ref 23, .ref 24]), .inr (0, [.ref 2, .ref 3, .ref 4, .ref 5, .ref 6]), x_it 256 pl0, x_it 256 ke0, x_it 4 sz0, x_it 96 se0, x_it 4 gr0, .inr (0, [.ref 8, .ref 9, .ref 10, .ref 11, .ref 12]), x_it 256 pl1, x_it 256 ke1, x_it 4 sz1, x_it 96 se1, x_it 4 gr1, x_it 8 im, .inr (1, [.ref 15, .ref 16, .ref 17, .ref 18, .ref 19, .ref 20, .int ro, .int co, .int mo, .long mi, .int ki]), x_it 2304 ce, x_it 2304 wo, x_it 31 pv, x_it 48 fa, x_it 10 pm, x_it 10 pw, .inr (2, [.ref 22]), x_lg 24 rw, x_it 24 fr, x_it 24 ba] ++ M : mm_H)) := by
  refine ⟨kq_52, rfl, rfl, ?_⟩
  refine mm_E.s rfl rfl rfl (fun _ => rfl) ?_
  refine mm_E.s rfl rfl rfl (fun _ => rfl) ?_
  refine mm_E.s rfl rfl rfl (fun _ => rfl) ?_
  refine mm_E.s rfl rfl rfl (fun _ => rfl) ?_
  refine mm_E.s rfl rfl rfl (fun _ => rfl) ?_
  refine mm_E.s rfl rfl rfl (fun _ => rfl) ?_
  refine mm_E.gf rfl rfl rfl rfl rfl ?_
  refine mm_E.s rfl rfl rfl (fun _ => rfl) ?_
  exact mm_E.ret rfl rfl rfl

theorem v_cxN {pl0 ke0 sz0 se0 gr0 pl1 ke1 sz1 se1 gr1 im ce wo pv fa pm pw fr ba : Nat → Int32} {rw : Nat → Int64} {ro co mo : Int32} {mi : Int64} {ki : Int32} {M : mm_H} {c : Int32} (hc : ¬ (c = 0 ∨ c = 1)) : mm_EC kM 52 [.ref 0, .int c] ([.inr (3, [.ref 1, .ref 7, .ref 13, .ref 14, .ref 21, .ref 23, .ref 24]), .inr (0, [.ref 2, .ref 3, .ref 4, .ref 5, .ref 6]), x_it 256 pl0, x_it 256 ke0, x_it 4 sz0, x_it 96 se0, x_it 4 gr0, .inr (0, [.ref 8, .ref 9, .ref 10, .ref 11, .ref 12]), x_it 256 pl1, x_it 256 ke1, x_it 4 sz1, x_it 96 se1, x_it 4 gr1, x_it 8 im, .inr (1, [.ref 15, .ref 16, .ref 17, .ref 18, .ref 19, .ref 20, .int ro, .int co, .int mo, .long mi, .int ki]), x_it 2304 ce, x_it 2304 wo, x_it 31 pv, x_it 48 fa, x_it 10 pm, x_it 10 pw, .inr (2, [.ref 22]), x_lg 24 rw, x_it 24 fr, x_it 24 ba] ++ M : mm_H) (some .null, ([.inr (3, [.ref 1, .ref 7, .ref 13, .ref 14, .ref 21, .ref 23, .ref 24]), .inr (0, [.ref 2, .ref 3, .ref 4, .ref 5, .ref 6]), x_it 256 pl0, x_it 256 ke0, x_it 4 sz0, x_it 96 se0, x_it 4 gr0, .inr (0, [.ref 8, .ref 9, .ref 10, .ref 11, .ref 12]), x_it 256 pl1, x_it 256 ke1, x_it 4 sz1, x_it 96 se1, x_it 4 gr1, x_it 8 im, .inr (1, [.ref 15, .ref 16, .ref 17, .ref 18, .ref 19, .ref 20, .int ro, .int co, .int mo, .long mi, .int ki]), x_it 2304 ce, x_it 2304 wo, x_it 31 pv, x_it 48 fa, x_it 10 pm, x_it 10 pw, .inr (2, [.ref 22]), x_lg 24 rw, x_it 24 fr, x_it 24 ba] ++ M : mm_H)) := by
  have h0 : ¬ c = 0 := fun q => hc (Or.inl q)
  have h1 : ¬ c = 1 := fun q => hc (Or.inr q)
  refine ⟨kq_52, rfl, rfl, ?_⟩
  refine mm_E.s rfl rfl rfl (fun _ => rfl) ?_
  refine mm_E.s rfl rfl rfl (fun _ => if_neg h0) ?_
  refine mm_E.s rfl rfl rfl (fun _ => rfl) ?_
  refine mm_E.s rfl rfl rfl (fun _ => rfl) ?_
  refine mm_E.s rfl rfl rfl (fun _ => if_neg h1) ?_
  refine mm_E.s rfl rfl rfl (fun _ => rfl) ?_
  exact mm_E.ret rfl rfl rfl

theorem v_countN {pl0 ke0 sz0 se0 gr0 pl1 ke1 sz1 se1 gr1 im ce wo pv fa pm pw fr ba : Nat → Int32} {rw : Nat → Int64} {ro co mo : Int32} {mi : Int64} {ki : Int32} {M : mm_H} {c : Int32} (hc : ¬ (c = 0 ∨ c = 1)) (k : Int32) : mm_EC kM 36 [.ref 0, .int c, .int k] ([.inr (3, [.ref 1, .ref 7, .ref 13, .ref 14, .ref 21, .ref 23, .ref 24]), .inr (0, [.ref 2, .ref 3, .ref 4, .ref 5, .ref 6]), x_it 256 pl0, x_it 256 ke0, x_it 4 sz0, x_it 96 se0, x_it 4 gr0, .inr (0, [.ref 8, .ref 9, .ref 10, .ref 11, .ref 12]), x_it 256 pl1, x_it 256 ke1, x_it 4 sz1, x_it 96 se1, x_it 4 gr1, x_it 8 im, .inr (1, [.ref 15, .ref 16, .ref 17, .ref 18, .ref 19, .ref 20, .int ro, .int co, .int mo, .long mi, .int ki]), x_it 2304 ce, x_it 2304 wo, x_it 31 pv, x_it 48 fa, x_it 10 pm, x_it 10 pw, .inr (2, [.ref 22]), x_lg 24 rw, x_it 24 fr, x_it 24 ba] ++ M : mm_H) (some (.int (-1)), ([.inr (3, [.ref 1, .ref 7, .ref 13, .ref 14, .ref 21, .ref 23, .ref 24]), .inr (0, [.ref 2, .ref 3, .ref 4, .ref 5, .ref 6]), x_it 256 pl0, x_it 256 ke0, x_it 4 sz0, x_it 96 se0, x_it 4 gr0, .inr (0, [.ref 8, .ref 9, .ref 10, .ref 11, .ref 12]), x_it 256 pl1, x_it 256 ke1, x_it 4 sz1, x_it 96 se1, x_it 4 gr1, x_it 8 im, .inr (1, [.ref 15, .ref 16, .ref 17, .ref 18, .ref 19, .ref 20, .int ro, .int co, .int mo, .long mi, .int ki]), x_it 2304 ce, x_it 2304 wo, x_it 31 pv, x_it 48 fa, x_it 10 pm, x_it 10 pw, .inr (2, [.ref 22]), x_lg 24 rw, x_it 24 fr, x_it 24 ba] ++ M : mm_H)) := by
  refine ⟨kq_36, rfl, rfl, ?_⟩
  refine mm_E.s rfl rfl rfl (fun _ => rfl) ?_
  refine mm_E.s rfl rfl rfl (fun _ => rfl) ?_
  refine mm_E.iv rfl rfl rfl rfl rfl rfl (v_cxN hc) ?_
  refine mm_E.s rfl rfl rfl (fun _ => rfl) ?_
  refine mm_E.s rfl rfl rfl (fun _ => rfl) ?_
  refine mm_E.s rfl rfl rfl (fun _ => rfl) ?_
  refine mm_E.s rfl rfl rfl (fun _ => rfl) ?_
  exact mm_E.ret rfl rfl rfl

theorem v_simplexN {pl0 ke0 sz0 se0 gr0 pl1 ke1 sz1 se1 gr1 im ce wo pv fa pm pw fr ba : Nat → Int32} {rw : Nat → Int64} {ro co mo : Int32} {mi : Int64} {ki : Int32} {M : mm_H} {c : Int32} (hc : ¬ (c = 0 ∨ c = 1)) (k i : Int32) : mm_EC kM 37 [.ref 0, .int c, .int k, .int i] ([.inr (3, [.ref 1, .ref 7, .ref 13, .ref 14, .ref 21, .ref 23, .ref 24]), .inr (0, [.ref 2, .ref 3, .ref 4, .ref 5, .ref 6]), x_it 256 pl0, x_it 256 ke0, x_it 4 sz0, x_it 96 se0, x_it 4 gr0, .inr (0, [.ref 8, .ref 9, .ref 10, .ref 11, .ref 12]), x_it 256 pl1, x_it 256 ke1, x_it 4 sz1, x_it 96 se1, x_it 4 gr1, x_it 8 im, .inr (1, [.ref 15, .ref 16, .ref 17, .ref 18, .ref 19, .ref 20, .int ro, .int co, .int mo, .long mi, .int ki]), x_it 2304 ce, x_it 2304 wo, x_it 31 pv, x_it 48 fa, x_it 10 pm, x_it 10 pw, .inr (2, [.ref 22]), x_lg 24 rw, x_it 24 fr, x_it 24 ba] ++ M : mm_H) (some (.int (-1)), ([.inr (3, [.ref 1, .ref 7, .ref 13, .ref 14, .ref 21, .ref 23, .ref 24]), .inr (0, [.ref 2, .ref 3, .ref 4, .ref 5, .ref 6]), x_it 256 pl0, x_it 256 ke0, x_it 4 sz0, x_it 96 se0, x_it 4 gr0, .inr (0, [.ref 8, .ref 9, .ref 10, .ref 11, .ref 12]), x_it 256 pl1, x_it 256 ke1, x_it 4 sz1, x_it 96 se1, x_it 4 gr1, x_it 8 im, .inr (1, [.ref 15, .ref 16, .ref 17, .ref 18, .ref 19, .ref 20, .int ro, .int co, .int mo, .long mi, .int ki]), x_it 2304 ce, x_it 2304 wo, x_it 31 pv, x_it 48 fa, x_it 10 pm, x_it 10 pw, .inr (2, [.ref 22]), x_lg 24 rw, x_it 24 fr, x_it 24 ba] ++ M : mm_H)) := by
  refine ⟨kq_37, rfl, rfl, ?_⟩
  refine mm_E.s rfl rfl rfl (fun _ => rfl) ?_
  refine mm_E.s rfl rfl rfl (fun _ => rfl) ?_
  refine mm_E.iv rfl rfl rfl rfl rfl rfl (v_cxN hc) ?_
  refine mm_E.s rfl rfl rfl (fun _ => rfl) ?_
  refine mm_E.s rfl rfl rfl (fun _ => rfl) ?_
  refine mm_E.s rfl rfl rfl (fun _ => rfl) ?_
  refine mm_E.s rfl rfl rfl (fun _ => rfl) ?_
  exact mm_E.ret rfl rfl rfl

theorem v_incN {pl0 ke0 sz0 se0 gr0 pl1 ke1 sz1 se1 gr1 im ce wo pv fa pm pw fr ba : Nat → Int32} {rw : Nat → Int64} {ro co mo : Int32} {mi : Int64} {ki : Int32} {M : mm_H} {c : Int32} (hc : ¬ (c = 0 ∨ c = 1)) (k i j : Int32) : mm_EC kM 38 [.ref 0, .int c, .int k, .int i, .int j] ([.inr (3, [.ref 1, .ref 7, .ref 13, .ref 14, .ref 21, .ref 23, .ref 24]), .inr (0, [.ref 2, .ref 3, .ref 4, .ref 5, .ref 6]), x_it 256 pl0, x_it 256 ke0, x_it 4 sz0, x_it 96 se0, x_it 4 gr0, .inr (0, [.ref 8, .ref 9, .ref 10, .ref 11, .ref 12]), x_it 256 pl1, x_it 256 ke1, x_it 4 sz1, x_it 96 se1, x_it 4 gr1, x_it 8 im, .inr (1, [.ref 15, .ref 16, .ref 17, .ref 18, .ref 19, .ref 20, .int ro, .int co, .int mo, .long mi, .int ki]), x_it 2304 ce, x_it 2304 wo, x_it 31 pv, x_it 48 fa, x_it 10 pm, x_it 10 pw, .inr (2, [.ref 22]), x_lg 24 rw, x_it 24 fr, x_it 24 ba] ++ M : mm_H) (some (.int 0), ([.inr (3, [.ref 1, .ref 7, .ref 13, .ref 14, .ref 21, .ref 23, .ref 24]), .inr (0, [.ref 2, .ref 3, .ref 4, .ref 5, .ref 6]), x_it 256 pl0, x_it 256 ke0, x_it 4 sz0, x_it 96 se0, x_it 4 gr0, .inr (0, [.ref 8, .ref 9, .ref 10, .ref 11, .ref 12]), x_it 256 pl1, x_it 256 ke1, x_it 4 sz1, x_it 96 se1, x_it 4 gr1, x_it 8 im, .inr (1, [.ref 15, .ref 16, .ref 17, .ref 18, .ref 19, .ref 20, .int ro, .int co, .int mo, .long mi, .int ki]), x_it 2304 ce, x_it 2304 wo, x_it 31 pv, x_it 48 fa, x_it 10 pm, x_it 10 pw, .inr (2, [.ref 22]), x_lg 24 rw, x_it 24 fr, x_it 24 ba] ++ M : mm_H)) := by
  refine ⟨kq_38, rfl, rfl, ?_⟩
  refine mm_E.s rfl rfl rfl (fun _ => rfl) ?_
  refine mm_E.s rfl rfl rfl (fun _ => rfl) ?_
  refine mm_E.iv rfl rfl rfl rfl rfl rfl (v_cxN hc) ?_
  refine mm_E.s rfl rfl rfl (fun _ => rfl) ?_
  refine mm_E.s rfl rfl rfl (fun _ => rfl) ?_
  refine mm_E.s rfl rfl rfl (fun _ => rfl) ?_
  refine mm_E.s rfl rfl rfl (fun _ => rfl) ?_
  exact mm_E.ret rfl rfl rfl

theorem v_putN {pl0 ke0 sz0 se0 gr0 pl1 ke1 sz1 se1 gr1 im ce wo pv fa pm pw fr ba : Nat → Int32} {rw : Nat → Int64} {ro co mo : Int32} {mi : Int64} {ki : Int32} {M : mm_H} {c : Int32} (hc : ¬ (c = 0 ∨ c = 1)) (s x : Int32) : mm_EC kM 43 [.ref 0, .int c, .int s, .int x] ([.inr (3, [.ref 1, .ref 7, .ref 13, .ref 14, .ref 21, .ref 23, .ref 24]), .inr (0, [.ref 2, .ref 3, .ref 4, .ref 5, .ref 6]), x_it 256 pl0, x_it 256 ke0, x_it 4 sz0, x_it 96 se0, x_it 4 gr0, .inr (0, [.ref 8, .ref 9, .ref 10, .ref 11, .ref 12]), x_it 256 pl1, x_it 256 ke1, x_it 4 sz1, x_it 96 se1, x_it 4 gr1, x_it 8 im, .inr (1, [.ref 15, .ref 16, .ref 17, .ref 18, .ref 19, .ref 20, .int ro, .int co, .int mo, .long mi, .int ki]), x_it 2304 ce, x_it 2304 wo, x_it 31 pv, x_it 48 fa, x_it 10 pm, x_it 10 pw, .inr (2, [.ref 22]), x_lg 24 rw, x_it 24 fr, x_it 24 ba] ++ M : mm_H) (some (.int 0), ([.inr (3, [.ref 1, .ref 7, .ref 13, .ref 14, .ref 21, .ref 23, .ref 24]), .inr (0, [.ref 2, .ref 3, .ref 4, .ref 5, .ref 6]), x_it 256 pl0, x_it 256 ke0, x_it 4 sz0, x_it 96 se0, x_it 4 gr0, .inr (0, [.ref 8, .ref 9, .ref 10, .ref 11, .ref 12]), x_it 256 pl1, x_it 256 ke1, x_it 4 sz1, x_it 96 se1, x_it 4 gr1, x_it 8 im, .inr (1, [.ref 15, .ref 16, .ref 17, .ref 18, .ref 19, .ref 20, .int ro, .int co, .int mo, .long mi, .int ki]), x_it 2304 ce, x_it 2304 wo, x_it 31 pv, x_it 48 fa, x_it 10 pm, x_it 10 pw, .inr (2, [.ref 22]), x_lg 24 rw, x_it 24 fr, x_it 24 ba] ++ M : mm_H)) := by
  refine ⟨kq_43, rfl, rfl, ?_⟩
  refine mm_E.s rfl rfl rfl (fun _ => rfl) ?_
  refine mm_E.s rfl rfl rfl (fun _ => rfl) ?_
  refine mm_E.iv rfl rfl rfl rfl rfl rfl (v_cxN hc) ?_
  refine mm_E.s rfl rfl rfl (fun _ => rfl) ?_
  refine mm_E.s rfl rfl rfl (fun _ => rfl) ?_
  refine mm_E.s rfl rfl rfl (fun _ => rfl) ?_
  refine mm_E.s rfl rfl rfl (fun _ => rfl) ?_
  exact mm_E.ret rfl rfl rfl

theorem v_getN {pl0 ke0 sz0 se0 gr0 pl1 ke1 sz1 se1 gr1 im ce wo pv fa pm pw fr ba : Nat → Int32} {rw : Nat → Int64} {ro co mo : Int32} {mi : Int64} {ki : Int32} {M : mm_H} {c : Int32} (hc : ¬ (c = 0 ∨ c = 1)) (s : Int32) : mm_EC kM 44 [.ref 0, .int c, .int s] ([.inr (3, [.ref 1, .ref 7, .ref 13, .ref 14, .ref 21, .ref 23, .ref 24]), .inr (0, [.ref 2, .ref 3, .ref 4, .ref 5, .ref 6]), x_it 256 pl0, x_it 256 ke0, x_it 4 sz0, x_it 96 se0, x_it 4 gr0, .inr (0, [.ref 8, .ref 9, .ref 10, .ref 11, .ref 12]), x_it 256 pl1, x_it 256 ke1, x_it 4 sz1, x_it 96 se1, x_it 4 gr1, x_it 8 im, .inr (1, [.ref 15, .ref 16, .ref 17, .ref 18, .ref 19, .ref 20, .int ro, .int co, .int mo, .long mi, .int ki]), x_it 2304 ce, x_it 2304 wo, x_it 31 pv, x_it 48 fa, x_it 10 pm, x_it 10 pw, .inr (2, [.ref 22]), x_lg 24 rw, x_it 24 fr, x_it 24 ba] ++ M : mm_H) (some (.int 0), ([.inr (3, [.ref 1, .ref 7, .ref 13, .ref 14, .ref 21, .ref 23, .ref 24]), .inr (0, [.ref 2, .ref 3, .ref 4, .ref 5, .ref 6]), x_it 256 pl0, x_it 256 ke0, x_it 4 sz0, x_it 96 se0, x_it 4 gr0, .inr (0, [.ref 8, .ref 9, .ref 10, .ref 11, .ref 12]), x_it 256 pl1, x_it 256 ke1, x_it 4 sz1, x_it 96 se1, x_it 4 gr1, x_it 8 im, .inr (1, [.ref 15, .ref 16, .ref 17, .ref 18, .ref 19, .ref 20, .int ro, .int co, .int mo, .long mi, .int ki]), x_it 2304 ce, x_it 2304 wo, x_it 31 pv, x_it 48 fa, x_it 10 pm, x_it 10 pw, .inr (2, [.ref 22]), x_lg 24 rw, x_it 24 fr, x_it 24 ba] ++ M : mm_H)) := by
  refine ⟨kq_44, rfl, rfl, ?_⟩
  refine mm_E.s rfl rfl rfl (fun _ => rfl) ?_
  refine mm_E.s rfl rfl rfl (fun _ => rfl) ?_
  refine mm_E.iv rfl rfl rfl rfl rfl rfl (v_cxN hc) ?_
  refine mm_E.s rfl rfl rfl (fun _ => rfl) ?_
  refine mm_E.s rfl rfl rfl (fun _ => rfl) ?_
  refine mm_E.s rfl rfl rfl (fun _ => rfl) ?_
  refine mm_E.s rfl rfl rfl (fun _ => rfl) ?_
  exact mm_E.ret rfl rfl rfl

theorem v_bdN {pl0 ke0 sz0 se0 gr0 pl1 ke1 sz1 se1 gr1 im ce wo pv fa pm pw fr ba : Nat → Int32} {rw : Nat → Int64} {ro co mo : Int32} {mi : Int64} {ki : Int32} {M : mm_H} {c : Int32} (hc : ¬ (c = 0 ∨ c = 1)) (s : Int32) : mm_EC kM 45 [.ref 0, .int c, .int s] ([.inr (3, [.ref 1, .ref 7, .ref 13, .ref 14, .ref 21, .ref 23, .ref 24]), .inr (0, [.ref 2, .ref 3, .ref 4, .ref 5, .ref 6]), x_it 256 pl0, x_it 256 ke0, x_it 4 sz0, x_it 96 se0, x_it 4 gr0, .inr (0, [.ref 8, .ref 9, .ref 10, .ref 11, .ref 12]), x_it 256 pl1, x_it 256 ke1, x_it 4 sz1, x_it 96 se1, x_it 4 gr1, x_it 8 im, .inr (1, [.ref 15, .ref 16, .ref 17, .ref 18, .ref 19, .ref 20, .int ro, .int co, .int mo, .long mi, .int ki]), x_it 2304 ce, x_it 2304 wo, x_it 31 pv, x_it 48 fa, x_it 10 pm, x_it 10 pw, .inr (2, [.ref 22]), x_lg 24 rw, x_it 24 fr, x_it 24 ba] ++ M : mm_H) (some (.int 0), ([.inr (3, [.ref 1, .ref 7, .ref 13, .ref 14, .ref 21, .ref 23, .ref 24]), .inr (0, [.ref 2, .ref 3, .ref 4, .ref 5, .ref 6]), x_it 256 pl0, x_it 256 ke0, x_it 4 sz0, x_it 96 se0, x_it 4 gr0, .inr (0, [.ref 8, .ref 9, .ref 10, .ref 11, .ref 12]), x_it 256 pl1, x_it 256 ke1, x_it 4 sz1, x_it 96 se1, x_it 4 gr1, x_it 8 im, .inr (1, [.ref 15, .ref 16, .ref 17, .ref 18, .ref 19, .ref 20, .int ro, .int co, .int mo, .long mi, .int ki]), x_it 2304 ce, x_it 2304 wo, x_it 31 pv, x_it 48 fa, x_it 10 pm, x_it 10 pw, .inr (2, [.ref 22]), x_lg 24 rw, x_it 24 fr, x_it 24 ba] ++ M : mm_H)) := by
  refine ⟨kq_45, rfl, rfl, ?_⟩
  refine mm_E.s rfl rfl rfl (fun _ => rfl) ?_
  refine mm_E.s rfl rfl rfl (fun _ => rfl) ?_
  refine mm_E.iv rfl rfl rfl rfl rfl rfl (v_cxN hc) ?_
  refine mm_E.s rfl rfl rfl (fun _ => rfl) ?_
  refine mm_E.s rfl rfl rfl (fun _ => rfl) ?_
  refine mm_E.s rfl rfl rfl (fun _ => rfl) ?_
  refine mm_E.s rfl rfl rfl (fun _ => rfl) ?_
  exact mm_E.ret rfl rfl rfl

theorem v_addN {pl0 ke0 sz0 se0 gr0 pl1 ke1 sz1 se1 gr1 im ce wo pv fa pm pw fr ba : Nat → Int32} {rw : Nat → Int64} {ro co mo : Int32} {mi : Int64} {ki : Int32} {M : mm_H} {c : Int32} (hc : ¬ (c = 0 ∨ c = 1)) (s : Int32) : mm_EC kM 34 [.ref 0, .int c, .int s] ([.inr (3, [.ref 1, .ref 7, .ref 13, .ref 14, .ref 21, .ref 23, .ref 24]), .inr (0, [.ref 2, .ref 3, .ref 4, .ref 5, .ref 6]), x_it 256 pl0, x_it 256 ke0, x_it 4 sz0, x_it 96 se0, x_it 4 gr0, .inr (0, [.ref 8, .ref 9, .ref 10, .ref 11, .ref 12]), x_it 256 pl1, x_it 256 ke1, x_it 4 sz1, x_it 96 se1, x_it 4 gr1, x_it 8 im, .inr (1, [.ref 15, .ref 16, .ref 17, .ref 18, .ref 19, .ref 20, .int ro, .int co, .int mo, .long mi, .int ki]), x_it 2304 ce, x_it 2304 wo, x_it 31 pv, x_it 48 fa, x_it 10 pm, x_it 10 pw, .inr (2, [.ref 22]), x_lg 24 rw, x_it 24 fr, x_it 24 ba] ++ M : mm_H) (some (.int (-1)), ([.inr (3, [.ref 1, .ref 7, .ref 13, .ref 14, .ref 21, .ref 23, .ref 24]), .inr (0, [.ref 2, .ref 3, .ref 4, .ref 5, .ref 6]), x_it 256 pl0, x_it 256 ke0, x_it 4 sz0, x_it 96 se0, x_it 4 gr0, .inr (0, [.ref 8, .ref 9, .ref 10, .ref 11, .ref 12]), x_it 256 pl1, x_it 256 ke1, x_it 4 sz1, x_it 96 se1, x_it 4 gr1, x_it 8 im, .inr (1, [.ref 15, .ref 16, .ref 17, .ref 18, .ref 19, .ref 20, .int ro, .int co, .int mo, .long mi, .int ki]), x_it 2304 ce, x_it 2304 wo, x_it 31 pv, x_it 48 fa, x_it 10 pm, x_it 10 pw, .inr (2, [.ref 22]), x_lg 24 rw, x_it 24 fr, x_it 24 ba] ++ M : mm_H)) := by
  refine ⟨kq_34, rfl, rfl, ?_⟩
  refine mm_E.s rfl rfl rfl (fun _ => rfl) ?_
  refine mm_E.s rfl rfl rfl (fun _ => rfl) ?_
  refine mm_E.iv rfl rfl rfl rfl rfl rfl (v_cxN hc) ?_
  refine mm_E.s rfl rfl rfl (fun _ => rfl) ?_
  refine mm_E.s rfl rfl rfl (fun _ => rfl) ?_
  refine mm_E.s rfl rfl rfl (fun _ => rfl) ?_
  refine mm_E.s rfl rfl rfl (fun _ => rfl) ?_
  exact mm_E.ret rfl rfl rfl

theorem v_eulerN {pl0 ke0 sz0 se0 gr0 pl1 ke1 sz1 se1 gr1 im ce wo pv fa pm pw fr ba : Nat → Int32} {rw : Nat → Int64} {ro co mo : Int32} {mi : Int64} {ki : Int32} {M : mm_H} {c : Int32} (hc : ¬ (c = 0 ∨ c = 1)) : mm_EC kM 39 [.ref 0, .int c] ([.inr (3, [.ref 1, .ref 7, .ref 13, .ref 14, .ref 21, .ref 23, .ref 24]), .inr (0, [.ref 2, .ref 3, .ref 4, .ref 5, .ref 6]), x_it 256 pl0, x_it 256 ke0, x_it 4 sz0, x_it 96 se0, x_it 4 gr0, .inr (0, [.ref 8, .ref 9, .ref 10, .ref 11, .ref 12]), x_it 256 pl1, x_it 256 ke1, x_it 4 sz1, x_it 96 se1, x_it 4 gr1, x_it 8 im, .inr (1, [.ref 15, .ref 16, .ref 17, .ref 18, .ref 19, .ref 20, .int ro, .int co, .int mo, .long mi, .int ki]), x_it 2304 ce, x_it 2304 wo, x_it 31 pv, x_it 48 fa, x_it 10 pm, x_it 10 pw, .inr (2, [.ref 22]), x_lg 24 rw, x_it 24 fr, x_it 24 ba] ++ M : mm_H) (some (.int 0), ([.inr (3, [.ref 1, .ref 7, .ref 13, .ref 14, .ref 21, .ref 23, .ref 24]), .inr (0, [.ref 2, .ref 3, .ref 4, .ref 5, .ref 6]), x_it 256 pl0, x_it 256 ke0, x_it 4 sz0, x_it 96 se0, x_it 4 gr0, .inr (0, [.ref 8, .ref 9, .ref 10, .ref 11, .ref 12]), x_it 256 pl1, x_it 256 ke1, x_it 4 sz1, x_it 96 se1, x_it 4 gr1, x_it 8 im, .inr (1, [.ref 15, .ref 16, .ref 17, .ref 18, .ref 19, .ref 20, .int ro, .int co, .int mo, .long mi, .int ki]), x_it 2304 ce, x_it 2304 wo, x_it 31 pv, x_it 48 fa, x_it 10 pm, x_it 10 pw, .inr (2, [.ref 22]), x_lg 24 rw, x_it 24 fr, x_it 24 ba] ++ M : mm_H)) := by
  refine ⟨kq_39, rfl, rfl, ?_⟩
  refine mm_E.s rfl rfl rfl (fun _ => rfl) ?_
  refine mm_E.s rfl rfl rfl (fun _ => rfl) ?_
  refine mm_E.iv rfl rfl rfl rfl rfl rfl (v_cxN hc) ?_
  refine mm_E.s rfl rfl rfl (fun _ => rfl) ?_
  refine mm_E.s rfl rfl rfl (fun _ => rfl) ?_
  refine mm_E.s rfl rfl rfl (fun _ => rfl) ?_
  refine mm_E.s rfl rfl rfl (fun _ => rfl) ?_
  exact mm_E.ret rfl rfl rfl

theorem v_clearN {pl0 ke0 sz0 se0 gr0 pl1 ke1 sz1 se1 gr1 im ce wo pv fa pm pw fr ba : Nat → Int32} {rw : Nat → Int64} {ro co mo : Int32} {mi : Int64} {ki : Int32} {M : mm_H} {c : Int32} (hc : ¬ (c = 0 ∨ c = 1)) : mm_EC kM 35 [.ref 0, .int c] ([.inr (3, [.ref 1, .ref 7, .ref 13, .ref 14, .ref 21, .ref 23, .ref 24]), .inr (0, [.ref 2, .ref 3, .ref 4, .ref 5, .ref 6]), x_it 256 pl0, x_it 256 ke0, x_it 4 sz0, x_it 96 se0, x_it 4 gr0, .inr (0, [.ref 8, .ref 9, .ref 10, .ref 11, .ref 12]), x_it 256 pl1, x_it 256 ke1, x_it 4 sz1, x_it 96 se1, x_it 4 gr1, x_it 8 im, .inr (1, [.ref 15, .ref 16, .ref 17, .ref 18, .ref 19, .ref 20, .int ro, .int co, .int mo, .long mi, .int ki]), x_it 2304 ce, x_it 2304 wo, x_it 31 pv, x_it 48 fa, x_it 10 pm, x_it 10 pw, .inr (2, [.ref 22]), x_lg 24 rw, x_it 24 fr, x_it 24 ba] ++ M : mm_H) (some (.int 0), ([.inr (3, [.ref 1, .ref 7, .ref 13, .ref 14, .ref 21, .ref 23, .ref 24]), .inr (0, [.ref 2, .ref 3, .ref 4, .ref 5, .ref 6]), x_it 256 pl0, x_it 256 ke0, x_it 4 sz0, x_it 96 se0, x_it 4 gr0, .inr (0, [.ref 8, .ref 9, .ref 10, .ref 11, .ref 12]), x_it 256 pl1, x_it 256 ke1, x_it 4 sz1, x_it 96 se1, x_it 4 gr1, x_it 8 im, .inr (1, [.ref 15, .ref 16, .ref 17, .ref 18, .ref 19, .ref 20, .int ro, .int co, .int mo, .long mi, .int ki]), x_it 2304 ce, x_it 2304 wo, x_it 31 pv, x_it 48 fa, x_it 10 pm, x_it 10 pw, .inr (2, [.ref 22]), x_lg 24 rw, x_it 24 fr, x_it 24 ba] ++ M : mm_H)) := by
  refine ⟨kq_35, rfl, rfl, ?_⟩
  refine mm_E.s rfl rfl rfl (fun _ => rfl) ?_
  refine mm_E.s rfl rfl rfl (fun _ => rfl) ?_
  refine mm_E.iv rfl rfl rfl rfl rfl rfl (v_cxN hc) ?_
  refine mm_E.s rfl rfl rfl (fun _ => rfl) ?_
  refine mm_E.s rfl rfl rfl (fun _ => rfl) ?_
  refine mm_E.s rfl rfl rfl (fun _ => rfl) ?_
  refine mm_E.s rfl rfl rfl (fun _ => rfl) ?_
  exact mm_E.ret rfl rfl rfl

theorem v_prodN {pl0 ke0 sz0 se0 gr0 pl1 ke1 sz1 se1 gr1 im ce wo pv fa pm pw fr ba : Nat → Int32} {rw : Nat → Int64} {ro co mo : Int32} {mi : Int64} {ki : Int32} {M : mm_H} {c : Int32} (hc : ¬ (c = 0 ∨ c = 1)) : mm_EC kM 51 [.ref 0, .int c] ([.inr (3, [.ref 1, .ref 7, .ref 13, .ref 14, .ref 21, .ref 23, .ref 24]), .inr (0, [.ref 2, .ref 3, .ref 4, .ref 5, .ref 6]), x_it 256 pl0, x_it 256 ke0, x_it 4 sz0, x_it 96 se0, x_it 4 gr0, .inr (0, [.ref 8, .ref 9, .ref 10, .ref 11, .ref 12]), x_it 256 pl1, x_it 256 ke1, x_it 4 sz1, x_it 96 se1, x_it 4 gr1, x_it 8 im, .inr (1, [.ref 15, .ref 16, .ref 17, .ref 18, .ref 19, .ref 20, .int ro, .int co, .int mo, .long mi, .int ki]), x_it 2304 ce, x_it 2304 wo, x_it 31 pv, x_it 48 fa, x_it 10 pm, x_it 10 pw, .inr (2, [.ref 22]), x_lg 24 rw, x_it 24 fr, x_it 24 ba] ++ M : mm_H) (some (.int (-1)), ([.inr (3, [.ref 1, .ref 7, .ref 13, .ref 14, .ref 21, .ref 23, .ref 24]), .inr (0, [.ref 2, .ref 3, .ref 4, .ref 5, .ref 6]), x_it 256 pl0, x_it 256 ke0, x_it 4 sz0, x_it 96 se0, x_it 4 gr0, .inr (0, [.ref 8, .ref 9, .ref 10, .ref 11, .ref 12]), x_it 256 pl1, x_it 256 ke1, x_it 4 sz1, x_it 96 se1, x_it 4 gr1, x_it 8 im, .inr (1, [.ref 15, .ref 16, .ref 17, .ref 18, .ref 19, .ref 20, .int ro, .int co, .int mo, .long mi, .int ki]), x_it 2304 ce, x_it 2304 wo, x_it 31 pv, x_it 48 fa, x_it 10 pm, x_it 10 pw, .inr (2, [.ref 22]), x_lg 24 rw, x_it 24 fr, x_it 24 ba] ++ M : mm_H)) := by
  refine ⟨kq_51, rfl, rfl, ?_⟩
  refine mm_E.s rfl rfl rfl (fun _ => rfl) ?_
  refine mm_E.s rfl rfl rfl (fun _ => rfl) ?_
  refine mm_E.iv rfl rfl rfl rfl rfl rfl (v_cxN hc) ?_
  refine mm_E.s rfl rfl rfl (fun _ => rfl) ?_
  refine mm_E.s rfl rfl rfl (fun _ => rfl) ?_
  refine mm_E.s rfl rfl rfl (fun _ => rfl) ?_
  refine mm_E.s rfl rfl rfl (fun _ => rfl) ?_
  exact mm_E.ret rfl rfl rfl

theorem x_n1 {a : Nat} (h : 1 ≤ a) : nI a - 1 = nI (a - 1) := by
  rw [show (1 : Int32) = nI 1 from rfl, pk_sub h]
theorem v_count0 {pl0 ke0 sz0 se0 gr0 pl1 ke1 sz1 se1 gr1 im ce wo pv fa pm pw fr ba : Nat → Int32} {rw : Nat → Int64} {ro co mo : Int32} {mi : Int64} {ki : Int32} {M : mm_H} (k : Int32) : mm_EC kM 36 [.ref 0, .int 0, .int k] ([.inr (3, [.ref 1, .ref 7, .ref 13, .ref 14, .ref 21, .ref 23, .ref 24]), .inr (0, [.ref 2, .ref 3, .ref 4, .ref 5, .ref 6]), x_it 256 pl0, x_it 256 ke0, x_it 4 sz0, x_it 96 se0, x_it 4 gr0, .inr (0, [.ref 8, .ref 9, .ref 10, .ref 11, .ref 12]), x_it 256 pl1, x_it 256 ke1, x_it 4 sz1, x_it 96 se1, x_it 4 gr1, x_it 8 im, .inr (1, [.ref 15, .ref 16, .ref 17, .ref 18, .ref 19, .ref 20, .int ro, .int co, .int mo, .long mi, .int ki]), x_it 2304 ce, x_it 2304 wo, x_it 31 pv, x_it 48 fa, x_it 10 pm, x_it 10 pw, .inr (2, [.ref 22]), x_lg 24 rw, x_it 24 fr, x_it 24 ba] ++ M : mm_H) (some (.int (if ¬ k < 0 ∧ ¬ 4 ≤ k then sz0 k.toNatClampNeg else -1)), ([.inr (3, [.ref 1, .ref 7, .ref 13, .ref 14, .ref 21, .ref 23, .ref 24]), .inr (0, [.ref 2, .ref 3, .ref 4, .ref 5, .ref 6]), x_it 256 pl0, x_it 256 ke0, x_it 4 sz0, x_it 96 se0, x_it 4 gr0, .inr (0, [.ref 8, .ref 9, .ref 10, .ref 11, .ref 12]), x_it 256 pl1, x_it 256 ke1, x_it 4 sz1, x_it 96 se1, x_it 4 gr1, x_it 8 im, .inr (1, [.ref 15, .ref 16, .ref 17, .ref 18, .ref 19, .ref 20, .int ro, .int co, .int mo, .long mi, .int ki]), x_it 2304 ce, x_it 2304 wo, x_it 31 pv, x_it 48 fa, x_it 10 pm, x_it 10 pw, .inr (2, [.ref 22]), x_lg 24 rw, x_it 24 fr, x_it 24 ba] ++ M : mm_H)) := by
  refine ⟨kq_36, rfl, rfl, ?_⟩
  by_cases hk : k < 0 ∨ 4 ≤ k
  · rw [if_neg (fun q => hk.elim q.1 q.2)]
    refine mm_E.s rfl rfl rfl (fun _ => rfl) ?_
    refine mm_E.s rfl rfl rfl (fun _ => rfl) ?_
    refine mm_E.iv rfl rfl rfl rfl rfl rfl v_cx0 ?_
    refine mm_E.s rfl rfl rfl (fun _ => rfl) ?_
    refine mm_E.s rfl rfl rfl (fun _ => rfl) ?_
    refine mm_E.s rfl rfl rfl (fun _ => rfl) ?_
    refine mm_E.s rfl rfl rfl (fun _ => rfl) ?_
    refine mm_E.ic rfl rfl rfl rfl rfl (z_isD0 hk) ?_
    refine mm_E.s rfl rfl rfl (fun _ => rfl) ?_
    refine mm_E.s rfl rfl rfl (fun _ => rfl) ?_
    exact mm_E.ret rfl rfl rfl
  · have k0 : ¬ k < 0 := fun q => hk (Or.inl q)
    have k4 : ¬ 4 ≤ k := fun q => hk (Or.inr q)
    have E1 := v_size0 (pl0 := pl0) (ke0 := ke0) (sz0 := sz0) (se0 := se0) (gr0 := gr0) (pl1 := pl1) (ke1 := ke1) (sz1 := sz1) (se1 := se1) (gr1 := gr1) (im := im) (ce := ce) (wo := wo) (pv := pv) (fa := fa) (pm := pm) (pw := pw) (fr := fr) (ba := ba) (rw := rw) (ro := ro) (co := co) (mo := mo) (mi := mi) (ki := ki) (M := M) k
    rw [if_pos ⟨k0, k4⟩] at E1 ⊢
    refine mm_E.s rfl rfl rfl (fun _ => rfl) ?_
    refine mm_E.s rfl rfl rfl (fun _ => rfl) ?_
    refine mm_E.iv rfl rfl rfl rfl rfl rfl v_cx0 ?_
    refine mm_E.s rfl rfl rfl (fun _ => rfl) ?_
    refine mm_E.s rfl rfl rfl (fun _ => rfl) ?_
    refine mm_E.s rfl rfl rfl (fun _ => rfl) ?_
    refine mm_E.s rfl rfl rfl (fun _ => rfl) ?_
    refine mm_E.ic rfl rfl rfl rfl rfl (z_isD1 k0 k4) ?_
    refine mm_E.s rfl rfl rfl (fun _ => rfl) ?_
    refine mm_E.s rfl rfl rfl (fun _ => rfl) ?_
    refine mm_E.s rfl rfl rfl (fun _ => rfl) ?_
    refine mm_E.iv rfl rfl rfl rfl rfl rfl E1 ?_
    exact mm_E.ret rfl rfl rfl

theorem v_simB0 {pl0 ke0 sz0 se0 gr0 pl1 ke1 sz1 se1 gr1 im ce wo pv fa pm pw fr ba : Nat → Int32} {rw : Nat → Int64} {ro co mo : Int32} {mi : Int64} {ki : Int32} {M : mm_H} {k i : Int32} (hb : i < 0 ∨ ¬ i < (if ¬ k < 0 ∧ ¬ 4 ≤ k then sz0 (k).toNatClampNeg else 0)) : mm_EC kM 37 [.ref 0, .int 0, .int k, .int i] ([.inr (3, [.ref 1, .ref 7, .ref 13, .ref 14, .ref 21, .ref 23, .ref 24]), .inr (0, [.ref 2, .ref 3, .ref 4, .ref 5, .ref 6]), x_it 256 pl0, x_it 256 ke0, x_it 4 sz0, x_it 96 se0, x_it 4 gr0, .inr (0, [.ref 8, .ref 9, .ref 10, .ref 11, .ref 12]), x_it 256 pl1, x_it 256 ke1, x_it 4 sz1, x_it 96 se1, x_it 4 gr1, x_it 8 im, .inr (1, [.ref 15, .ref 16, .ref 17, .ref 18, .ref 19, .ref 20, .int ro, .int co, .int mo, .long mi, .int ki]), x_it 2304 ce, x_it 2304 wo, x_it 31 pv, x_it 48 fa, x_it 10 pm, x_it 10 pw, .inr (2, [.ref 22]), x_lg 24 rw, x_it 24 fr, x_it 24 ba] ++ M : mm_H) (some (.int (-1)), ([.inr (3, [.ref 1, .ref 7, .ref 13, .ref 14, .ref 21, .ref 23, .ref 24]), .inr (0, [.ref 2, .ref 3, .ref 4, .ref 5, .ref 6]), x_it 256 pl0, x_it 256 ke0, x_it 4 sz0, x_it 96 se0, x_it 4 gr0, .inr (0, [.ref 8, .ref 9, .ref 10, .ref 11, .ref 12]), x_it 256 pl1, x_it 256 ke1, x_it 4 sz1, x_it 96 se1, x_it 4 gr1, x_it 8 im, .inr (1, [.ref 15, .ref 16, .ref 17, .ref 18, .ref 19, .ref 20, .int ro, .int co, .int mo, .long mi, .int ki]), x_it 2304 ce, x_it 2304 wo, x_it 31 pv, x_it 48 fa, x_it 10 pm, x_it 10 pw, .inr (2, [.ref 22]), x_lg 24 rw, x_it 24 fr, x_it 24 ba] ++ M : mm_H)) := by
  refine ⟨kq_37, rfl, rfl, ?_⟩
  by_cases h0 : i < 0
  · skip
    refine mm_E.s rfl rfl rfl (fun _ => rfl) ?_
    refine mm_E.s rfl rfl rfl (fun _ => rfl) ?_
    refine mm_E.iv rfl rfl rfl rfl rfl rfl v_cx0 ?_
    refine mm_E.s rfl rfl rfl (fun _ => rfl) ?_
    refine mm_E.s rfl rfl rfl (fun _ => rfl) ?_
    refine mm_E.s rfl rfl rfl (fun _ => rfl) ?_
    refine mm_E.s rfl rfl rfl (fun _ => rfl) ?_
    refine mm_E.s rfl rfl rfl (fun _ => if_pos h0) ?_
    refine mm_E.s rfl rfl rfl (fun _ => rfl) ?_
    exact mm_E.ret rfl rfl rfl
  · have h1 := hb.resolve_left h0
    refine mm_E.s rfl rfl rfl (fun _ => rfl) ?_
    refine mm_E.s rfl rfl rfl (fun _ => rfl) ?_
    refine mm_E.iv rfl rfl rfl rfl rfl rfl v_cx0 ?_
    refine mm_E.s rfl rfl rfl (fun _ => rfl) ?_
    refine mm_E.s rfl rfl rfl (fun _ => rfl) ?_
    refine mm_E.s rfl rfl rfl (fun _ => rfl) ?_
    refine mm_E.s rfl rfl rfl (fun _ => rfl) ?_
    refine mm_E.s rfl rfl rfl (fun _ => if_neg h0) ?_
    refine mm_E.s rfl rfl rfl (fun _ => rfl) ?_
    refine mm_E.s rfl rfl rfl (fun _ => rfl) ?_
    refine mm_E.s rfl rfl rfl (fun _ => rfl) ?_
    refine mm_E.iv rfl rfl rfl rfl rfl rfl (v_size0 k) ?_
    refine mm_E.s rfl rfl rfl (fun _ => if_neg h1) ?_
    refine mm_E.s rfl rfl rfl (fun _ => rfl) ?_
    exact mm_E.ret rfl rfl rfl
theorem v_simG0 {pl0 ke0 sz0 se0 gr0 pl1 ke1 sz1 se1 gr1 im ce wo pv fa pm pw fr ba : Nat → Int32} {rw : Nat → Int64} {ro co mo : Int32} {mi : Int64} {ki : Int32} {M : mm_H} {a j m : Nat} (ha : a < 4) (hm : sz0 a = nI m) (hm4 : m ≤ 24) (hj : j < m) : mm_EC kM 37 [.ref 0, .int 0, .int (nI a), .int (nI j)] ([.inr (3, [.ref 1, .ref 7, .ref 13, .ref 14, .ref 21, .ref 23, .ref 24]), .inr (0, [.ref 2, .ref 3, .ref 4, .ref 5, .ref 6]), x_it 256 pl0, x_it 256 ke0, x_it 4 sz0, x_it 96 se0, x_it 4 gr0, .inr (0, [.ref 8, .ref 9, .ref 10, .ref 11, .ref 12]), x_it 256 pl1, x_it 256 ke1, x_it 4 sz1, x_it 96 se1, x_it 4 gr1, x_it 8 im, .inr (1, [.ref 15, .ref 16, .ref 17, .ref 18, .ref 19, .ref 20, .int ro, .int co, .int mo, .long mi, .int ki]), x_it 2304 ce, x_it 2304 wo, x_it 31 pv, x_it 48 fa, x_it 10 pm, x_it 10 pw, .inr (2, [.ref 22]), x_lg 24 rw, x_it 24 fr, x_it 24 ba] ++ M : mm_H) (some (.int (se0 (a * 24 + j))), ([.inr (3, [.ref 1, .ref 7, .ref 13, .ref 14, .ref 21, .ref 23, .ref 24]), .inr (0, [.ref 2, .ref 3, .ref 4, .ref 5, .ref 6]), x_it 256 pl0, x_it 256 ke0, x_it 4 sz0, x_it 96 se0, x_it 4 gr0, .inr (0, [.ref 8, .ref 9, .ref 10, .ref 11, .ref 12]), x_it 256 pl1, x_it 256 ke1, x_it 4 sz1, x_it 96 se1, x_it 4 gr1, x_it 8 im, .inr (1, [.ref 15, .ref 16, .ref 17, .ref 18, .ref 19, .ref 20, .int ro, .int co, .int mo, .long mi, .int ki]), x_it 2304 ce, x_it 2304 wo, x_it 31 pv, x_it 48 fa, x_it 10 pm, x_it 10 pw, .inr (2, [.ref 22]), x_lg 24 rw, x_it 24 fr, x_it 24 ba] ++ M : mm_H)) := by
  have h0 : ¬ nI j < 0 := nI_pos (by omega)
  have h1 : nI j < (if ¬ nI a < 0 ∧ ¬ 4 ≤ nI a then sz0 (nI a).toNatClampNeg else 0) := by
    rw [if_pos ⟨nI_pos (by omega), nI_ge (a := a) (b := 4) ha (by decide)⟩, mm_cl (by omega), hm]
    exact nI_lt hj (by omega)
  refine ⟨kq_37, rfl, rfl, ?_⟩
  refine mm_E.s rfl rfl rfl (fun _ => rfl) ?_
  refine mm_E.s rfl rfl rfl (fun _ => rfl) ?_
  refine mm_E.iv rfl rfl rfl rfl rfl rfl v_cx0 ?_
  refine mm_E.s rfl rfl rfl (fun _ => rfl) ?_
  refine mm_E.s rfl rfl rfl (fun _ => rfl) ?_
  refine mm_E.s rfl rfl rfl (fun _ => rfl) ?_
  refine mm_E.s rfl rfl rfl (fun _ => rfl) ?_
  refine mm_E.s rfl rfl rfl (fun _ => if_neg h0) ?_
  refine mm_E.s rfl rfl rfl (fun _ => rfl) ?_
  refine mm_E.s rfl rfl rfl (fun _ => rfl) ?_
  refine mm_E.s rfl rfl rfl (fun _ => rfl) ?_
  refine mm_E.iv rfl rfl rfl rfl rfl rfl (v_size0 (nI a)) ?_
  refine mm_E.s rfl rfl rfl (fun _ => if_pos h1) ?_
  refine mm_E.s rfl rfl rfl (fun _ => rfl) ?_
  refine mm_E.s rfl rfl rfl (fun _ => rfl) ?_
  refine mm_E.s rfl rfl rfl (fun _ => rfl) ?_
  refine mm_E.iv rfl rfl rfl rfl rfl rfl (v_setAt0 (by omega)) ?_
  exact mm_E.ret rfl rfl rfl

theorem v_incB0 {pl0 ke0 sz0 se0 gr0 pl1 ke1 sz1 se1 gr1 im ce wo pv fa pm pw fr ba : Nat → Int32} {rw : Nat → Int64} {ro co mo : Int32} {mi : Int64} {ki : Int32} {M : mm_H} {k i j : Int32} (hb : i < 0 ∨ (if ¬ (k - 1) < 0 ∧ ¬ 4 ≤ (k - 1) then sz0 ((k - 1)).toNatClampNeg else 0) ≤ i ∨ j < 0 ∨ ¬ j < (if ¬ k < 0 ∧ ¬ 4 ≤ k then sz0 (k).toNatClampNeg else 0)) : mm_EC kM 38 [.ref 0, .int 0, .int k, .int i, .int j] ([.inr (3, [.ref 1, .ref 7, .ref 13, .ref 14, .ref 21, .ref 23, .ref 24]), .inr (0, [.ref 2, .ref 3, .ref 4, .ref 5, .ref 6]), x_it 256 pl0, x_it 256 ke0, x_it 4 sz0, x_it 96 se0, x_it 4 gr0, .inr (0, [.ref 8, .ref 9, .ref 10, .ref 11, .ref 12]), x_it 256 pl1, x_it 256 ke1, x_it 4 sz1, x_it 96 se1, x_it 4 gr1, x_it 8 im, .inr (1, [.ref 15, .ref 16, .ref 17, .ref 18, .ref 19, .ref 20, .int ro, .int co, .int mo, .long mi, .int ki]), x_it 2304 ce, x_it 2304 wo, x_it 31 pv, x_it 48 fa, x_it 10 pm, x_it 10 pw, .inr (2, [.ref 22]), x_lg 24 rw, x_it 24 fr, x_it 24 ba] ++ M : mm_H) (some (.int 0), ([.inr (3, [.ref 1, .ref 7, .ref 13, .ref 14, .ref 21, .ref 23, .ref 24]), .inr (0, [.ref 2, .ref 3, .ref 4, .ref 5, .ref 6]), x_it 256 pl0, x_it 256 ke0, x_it 4 sz0, x_it 96 se0, x_it 4 gr0, .inr (0, [.ref 8, .ref 9, .ref 10, .ref 11, .ref 12]), x_it 256 pl1, x_it 256 ke1, x_it 4 sz1, x_it 96 se1, x_it 4 gr1, x_it 8 im, .inr (1, [.ref 15, .ref 16, .ref 17, .ref 18, .ref 19, .ref 20, .int ro, .int co, .int mo, .long mi, .int ki]), x_it 2304 ce, x_it 2304 wo, x_it 31 pv, x_it 48 fa, x_it 10 pm, x_it 10 pw, .inr (2, [.ref 22]), x_lg 24 rw, x_it 24 fr, x_it 24 ba] ++ M : mm_H)) := by
  refine ⟨kq_38, rfl, rfl, ?_⟩
  by_cases h0 : i < 0
  · skip
    refine mm_E.s rfl rfl rfl (fun _ => rfl) ?_
    refine mm_E.s rfl rfl rfl (fun _ => rfl) ?_
    refine mm_E.iv rfl rfl rfl rfl rfl rfl v_cx0 ?_
    refine mm_E.s rfl rfl rfl (fun _ => rfl) ?_
    refine mm_E.s rfl rfl rfl (fun _ => rfl) ?_
    refine mm_E.s rfl rfl rfl (fun _ => rfl) ?_
    refine mm_E.s rfl rfl rfl (fun _ => rfl) ?_
    refine mm_E.s rfl rfl rfl (fun _ => if_pos h0) ?_
    refine mm_E.s rfl rfl rfl (fun _ => rfl) ?_
    exact mm_E.ret rfl rfl rfl
  · by_cases h1 : (if ¬ (k - 1) < 0 ∧ ¬ 4 ≤ (k - 1) then sz0 ((k - 1)).toNatClampNeg else 0) ≤ i
    · skip
      refine mm_E.s rfl rfl rfl (fun _ => rfl) ?_
      refine mm_E.s rfl rfl rfl (fun _ => rfl) ?_
      refine mm_E.iv rfl rfl rfl rfl rfl rfl v_cx0 ?_
      refine mm_E.s rfl rfl rfl (fun _ => rfl) ?_
      refine mm_E.s rfl rfl rfl (fun _ => rfl) ?_
      refine mm_E.s rfl rfl rfl (fun _ => rfl) ?_
      refine mm_E.s rfl rfl rfl (fun _ => rfl) ?_
      refine mm_E.s rfl rfl rfl (fun _ => if_neg h0) ?_
      refine mm_E.s rfl rfl rfl (fun _ => rfl) ?_
      refine mm_E.s rfl rfl rfl (fun _ => rfl) ?_
      refine mm_E.s rfl rfl rfl (fun _ => rfl) ?_
      refine mm_E.s rfl rfl rfl (fun _ => rfl) ?_
      refine mm_E.s rfl rfl rfl (fun _ => rfl) ?_
      refine mm_E.iv rfl rfl rfl rfl rfl rfl (v_size0 (k - 1)) ?_
      refine mm_E.s rfl rfl rfl (fun _ => if_pos h1) ?_
      refine mm_E.s rfl rfl rfl (fun _ => rfl) ?_
      exact mm_E.ret rfl rfl rfl
    · by_cases h2 : j < 0
      · skip
        refine mm_E.s rfl rfl rfl (fun _ => rfl) ?_
        refine mm_E.s rfl rfl rfl (fun _ => rfl) ?_
        refine mm_E.iv rfl rfl rfl rfl rfl rfl v_cx0 ?_
        refine mm_E.s rfl rfl rfl (fun _ => rfl) ?_
        refine mm_E.s rfl rfl rfl (fun _ => rfl) ?_
        refine mm_E.s rfl rfl rfl (fun _ => rfl) ?_
        refine mm_E.s rfl rfl rfl (fun _ => rfl) ?_
        refine mm_E.s rfl rfl rfl (fun _ => if_neg h0) ?_
        refine mm_E.s rfl rfl rfl (fun _ => rfl) ?_
        refine mm_E.s rfl rfl rfl (fun _ => rfl) ?_
        refine mm_E.s rfl rfl rfl (fun _ => rfl) ?_
        refine mm_E.s rfl rfl rfl (fun _ => rfl) ?_
        refine mm_E.s rfl rfl rfl (fun _ => rfl) ?_
        refine mm_E.iv rfl rfl rfl rfl rfl rfl (v_size0 (k - 1)) ?_
        refine mm_E.s rfl rfl rfl (fun _ => if_neg h1) ?_
        refine mm_E.s rfl rfl rfl (fun _ => rfl) ?_
        refine mm_E.s rfl rfl rfl (fun _ => if_pos h2) ?_
        refine mm_E.s rfl rfl rfl (fun _ => rfl) ?_
        exact mm_E.ret rfl rfl rfl
      · have h3 := ((hb.resolve_left h0).resolve_left h1).resolve_left h2
        refine mm_E.s rfl rfl rfl (fun _ => rfl) ?_
        refine mm_E.s rfl rfl rfl (fun _ => rfl) ?_
        refine mm_E.iv rfl rfl rfl rfl rfl rfl v_cx0 ?_
        refine mm_E.s rfl rfl rfl (fun _ => rfl) ?_
        refine mm_E.s rfl rfl rfl (fun _ => rfl) ?_
        refine mm_E.s rfl rfl rfl (fun _ => rfl) ?_
        refine mm_E.s rfl rfl rfl (fun _ => rfl) ?_
        refine mm_E.s rfl rfl rfl (fun _ => if_neg h0) ?_
        refine mm_E.s rfl rfl rfl (fun _ => rfl) ?_
        refine mm_E.s rfl rfl rfl (fun _ => rfl) ?_
        refine mm_E.s rfl rfl rfl (fun _ => rfl) ?_
        refine mm_E.s rfl rfl rfl (fun _ => rfl) ?_
        refine mm_E.s rfl rfl rfl (fun _ => rfl) ?_
        refine mm_E.iv rfl rfl rfl rfl rfl rfl (v_size0 (k - 1)) ?_
        refine mm_E.s rfl rfl rfl (fun _ => if_neg h1) ?_
        refine mm_E.s rfl rfl rfl (fun _ => rfl) ?_
        refine mm_E.s rfl rfl rfl (fun _ => if_neg h2) ?_
        refine mm_E.s rfl rfl rfl (fun _ => rfl) ?_
        refine mm_E.s rfl rfl rfl (fun _ => rfl) ?_
        refine mm_E.s rfl rfl rfl (fun _ => rfl) ?_
        refine mm_E.iv rfl rfl rfl rfl rfl rfl (v_size0 k) ?_
        refine mm_E.s rfl rfl rfl (fun _ => if_neg h3) ?_
        refine mm_E.s rfl rfl rfl (fun _ => rfl) ?_
        exact mm_E.ret rfl rfl rfl
theorem v_incG0 {pl0 ke0 sz0 se0 gr0 pl1 ke1 sz1 se1 gr1 im ce wo pv fa pm pw fr ba : Nat → Int32} {rw : Nat → Int64} {ro co mo : Int32} {mi : Int64} {ki : Int32} {M : mm_H} {a i j m1 m2 : Nat} (h1a : 1 ≤ a) (ha : a < 4) (hm1 : sz0 (a - 1) = nI m1) (hm14 : m1 ≤ 24) (hi : i < m1) (hm2 : sz0 a = nI m2) (hm24 : m2 ≤ 24) (hj : j < m2) : mm_EC kM 38 [.ref 0, .int 0, .int (nI a), .int (nI i), .int (nI j)] ([.inr (3, [.ref 1, .ref 7, .ref 13, .ref 14, .ref 21, .ref 23, .ref 24]), .inr (0, [.ref 2, .ref 3, .ref 4, .ref 5, .ref 6]), x_it 256 pl0, x_it 256 ke0, x_it 4 sz0, x_it 96 se0, x_it 4 gr0, .inr (0, [.ref 8, .ref 9, .ref 10, .ref 11, .ref 12]), x_it 256 pl1, x_it 256 ke1, x_it 4 sz1, x_it 96 se1, x_it 4 gr1, x_it 8 im, .inr (1, [.ref 15, .ref 16, .ref 17, .ref 18, .ref 19, .ref 20, .int ro, .int co, .int mo, .long mi, .int ki]), x_it 2304 ce, x_it 2304 wo, x_it 31 pv, x_it 48 fa, x_it 10 pm, x_it 10 pw, .inr (2, [.ref 22]), x_lg 24 rw, x_it 24 fr, x_it 24 ba] ++ M : mm_H) (some (.int (x_sf (se0 ((a - 1) * 24 + i)) (se0 (a * 24 + j)))), ([.inr (3, [.ref 1, .ref 7, .ref 13, .ref 14, .ref 21, .ref 23, .ref 24]), .inr (0, [.ref 2, .ref 3, .ref 4, .ref 5, .ref 6]), x_it 256 pl0, x_it 256 ke0, x_it 4 sz0, x_it 96 se0, x_it 4 gr0, .inr (0, [.ref 8, .ref 9, .ref 10, .ref 11, .ref 12]), x_it 256 pl1, x_it 256 ke1, x_it 4 sz1, x_it 96 se1, x_it 4 gr1, x_it 8 im, .inr (1, [.ref 15, .ref 16, .ref 17, .ref 18, .ref 19, .ref 20, .int ro, .int co, .int mo, .long mi, .int ki]), x_it 2304 ce, x_it 2304 wo, x_it 31 pv, x_it 48 fa, x_it 10 pm, x_it 10 pw, .inr (2, [.ref 22]), x_lg 24 rw, x_it 24 fr, x_it 24 ba] ++ M : mm_H)) := by
  have h0 : ¬ nI i < 0 := nI_pos (by omega)
  have h2 : ¬ nI j < 0 := nI_pos (by omega)
  have ea : nI a - 1 = nI (a - 1) := x_n1 h1a
  have h1 : ¬ (if ¬ (nI a - 1) < 0 ∧ ¬ 4 ≤ (nI a - 1) then sz0 ((nI a - 1)).toNatClampNeg else 0) ≤ nI i := by
    rw [ea, if_pos ⟨nI_pos (by omega), nI_ge (a := a - 1) (b := 4) (by omega) (by decide)⟩, mm_cl (by omega), hm1]
    exact nI_ge hi (by omega)
  have h3 : nI j < (if ¬ nI a < 0 ∧ ¬ 4 ≤ nI a then sz0 (nI a).toNatClampNeg else 0) := by
    rw [if_pos ⟨nI_pos (by omega), nI_ge (a := a) (b := 4) ha (by decide)⟩, mm_cl (by omega), hm2]
    exact nI_lt hj (by omega)
  refine ⟨kq_38, rfl, rfl, ?_⟩
  refine mm_E.s rfl rfl rfl (fun _ => rfl) ?_
  refine mm_E.s rfl rfl rfl (fun _ => rfl) ?_
  refine mm_E.iv rfl rfl rfl rfl rfl rfl v_cx0 ?_
  refine mm_E.s rfl rfl rfl (fun _ => rfl) ?_
  refine mm_E.s rfl rfl rfl (fun _ => rfl) ?_
  refine mm_E.s rfl rfl rfl (fun _ => rfl) ?_
  refine mm_E.s rfl rfl rfl (fun _ => rfl) ?_
  refine mm_E.s rfl rfl rfl (fun _ => if_neg h0) ?_
  refine mm_E.s rfl rfl rfl (fun _ => rfl) ?_
  refine mm_E.s rfl rfl rfl (fun _ => rfl) ?_
  refine mm_E.s rfl rfl rfl (fun _ => rfl) ?_
  refine mm_E.s rfl rfl rfl (fun _ => rfl) ?_
  refine mm_E.s rfl rfl rfl (fun _ => rfl) ?_
  refine mm_E.iv rfl rfl rfl rfl rfl rfl (v_size0 (nI a - 1)) ?_
  refine mm_E.s rfl rfl rfl (fun _ => if_neg h1) ?_
  refine mm_E.s rfl rfl rfl (fun _ => rfl) ?_
  refine mm_E.s rfl rfl rfl (fun _ => if_neg h2) ?_
  refine mm_E.s rfl rfl rfl (fun _ => rfl) ?_
  refine mm_E.s rfl rfl rfl (fun _ => rfl) ?_
  refine mm_E.s rfl rfl rfl (fun _ => rfl) ?_
  refine mm_E.iv rfl rfl rfl rfl rfl rfl (v_size0 (nI a)) ?_
  refine mm_E.s rfl rfl rfl (fun _ => if_pos h3) ?_
  refine mm_E.s rfl rfl rfl (fun _ => rfl) ?_
  refine mm_E.s rfl rfl rfl (fun _ => rfl) ?_
  refine mm_E.s rfl rfl rfl (fun _ => rfl) ?_
  refine mm_E.s rfl rfl rfl (fun _ => rfl) ?_
  refine mm_E.ti (nI (a - 1)) ea ?_
  refine mm_E.s rfl rfl rfl (fun _ => rfl) ?_
  refine mm_E.iv rfl rfl rfl rfl rfl rfl (v_setAt0 (by omega)) ?_
  refine mm_E.s rfl rfl rfl (fun _ => rfl) ?_
  refine mm_E.s rfl rfl rfl (fun _ => rfl) ?_
  refine mm_E.s rfl rfl rfl (fun _ => rfl) ?_
  refine mm_E.iv rfl rfl rfl rfl rfl rfl (v_setAt0 (by omega)) ?_
  refine mm_E.ic rfl rfl rfl rfl rfl (v_sf _ _) ?_
  exact mm_E.ret rfl rfl rfl

theorem v_euler0 {pl0 ke0 sz0 se0 gr0 pl1 ke1 sz1 se1 gr1 im ce wo pv fa pm pw fr ba : Nat → Int32} {rw : Nat → Int64} {ro co mo : Int32} {mi : Int64} {ki : Int32} {M : mm_H} : mm_EC kM 39 [.ref 0, .int 0] ([.inr (3, [.ref 1, .ref 7, .ref 13, .ref 14, .ref 21, .ref 23, .ref 24]), .inr (0, [.ref 2, .ref 3, .ref 4, .ref 5, .ref 6]), x_it 256 pl0, x_it 256 ke0, x_it 4 sz0, x_it 96 se0, x_it 4 gr0, .inr (0, [.ref 8, .ref 9, .ref 10, .ref 11, .ref 12]), x_it 256 pl1, x_it 256 ke1, x_it 4 sz1, x_it 96 se1, x_it 4 gr1, x_it 8 im, .inr (1, [.ref 15, .ref 16, .ref 17, .ref 18, .ref 19, .ref 20, .int ro, .int co, .int mo, .long mi, .int ki]), x_it 2304 ce, x_it 2304 wo, x_it 31 pv, x_it 48 fa, x_it 10 pm, x_it 10 pw, .inr (2, [.ref 22]), x_lg 24 rw, x_it 24 fr, x_it 24 ba] ++ M : mm_H) (some (.int (sz0 0 - sz0 1 + sz0 2 - sz0 3)), ([.inr (3, [.ref 1, .ref 7, .ref 13, .ref 14, .ref 21, .ref 23, .ref 24]), .inr (0, [.ref 2, .ref 3, .ref 4, .ref 5, .ref 6]), x_it 256 pl0, x_it 256 ke0, x_it 4 sz0, x_it 96 se0, x_it 4 gr0, .inr (0, [.ref 8, .ref 9, .ref 10, .ref 11, .ref 12]), x_it 256 pl1, x_it 256 ke1, x_it 4 sz1, x_it 96 se1, x_it 4 gr1, x_it 8 im, .inr (1, [.ref 15, .ref 16, .ref 17, .ref 18, .ref 19, .ref 20, .int ro, .int co, .int mo, .long mi, .int ki]), x_it 2304 ce, x_it 2304 wo, x_it 31 pv, x_it 48 fa, x_it 10 pm, x_it 10 pw, .inr (2, [.ref 22]), x_lg 24 rw, x_it 24 fr, x_it 24 ba] ++ M : mm_H)) := by
  refine ⟨kq_39, rfl, rfl, ?_⟩
  refine mm_E.s rfl rfl rfl (fun _ => rfl) ?_
  refine mm_E.s rfl rfl rfl (fun _ => rfl) ?_
  refine mm_E.iv rfl rfl rfl rfl rfl rfl v_cx0 ?_
  refine mm_E.s rfl rfl rfl (fun _ => rfl) ?_
  refine mm_E.s rfl rfl rfl (fun _ => rfl) ?_
  refine mm_E.s rfl rfl rfl (fun _ => rfl) ?_
  refine mm_E.s rfl rfl rfl (fun _ => rfl) ?_
  refine mm_E.s rfl rfl rfl (fun _ => rfl) ?_
  refine mm_E.iv rfl rfl rfl rfl rfl rfl (v_size0 0) ?_
  refine mm_E.s rfl rfl rfl (fun _ => rfl) ?_
  refine mm_E.s rfl rfl rfl (fun _ => rfl) ?_
  refine mm_E.iv rfl rfl rfl rfl rfl rfl (v_size0 1) ?_
  refine mm_E.s rfl rfl rfl (fun _ => rfl) ?_
  refine mm_E.s rfl rfl rfl (fun _ => rfl) ?_
  refine mm_E.s rfl rfl rfl (fun _ => rfl) ?_
  refine mm_E.iv rfl rfl rfl rfl rfl rfl (v_size0 2) ?_
  refine mm_E.s rfl rfl rfl (fun _ => rfl) ?_
  refine mm_E.s rfl rfl rfl (fun _ => rfl) ?_
  refine mm_E.s rfl rfl rfl (fun _ => rfl) ?_
  refine mm_E.iv rfl rfl rfl rfl rfl rfl (v_size0 3) ?_
  refine mm_E.s rfl rfl rfl (fun _ => rfl) ?_
  exact mm_E.ret rfl rfl rfl

theorem v_get0 {pl0 ke0 sz0 se0 gr0 pl1 ke1 sz1 se1 gr1 im ce wo pv fa pm pw fr ba : Nat → Int32} {rw : Nat → Int64} {ro co mo : Int32} {mi : Int64} {ki : Int32} {M : mm_H} (s : Int32) : mm_EC kM 44 [.ref 0, .int 0, .int s] ([.inr (3, [.ref 1, .ref 7, .ref 13, .ref 14, .ref 21, .ref 23, .ref 24]), .inr (0, [.ref 2, .ref 3, .ref 4, .ref 5, .ref 6]), x_it 256 pl0, x_it 256 ke0, x_it 4 sz0, x_it 96 se0, x_it 4 gr0, .inr (0, [.ref 8, .ref 9, .ref 10, .ref 11, .ref 12]), x_it 256 pl1, x_it 256 ke1, x_it 4 sz1, x_it 96 se1, x_it 4 gr1, x_it 8 im, .inr (1, [.ref 15, .ref 16, .ref 17, .ref 18, .ref 19, .ref 20, .int ro, .int co, .int mo, .long mi, .int ki]), x_it 2304 ce, x_it 2304 wo, x_it 31 pv, x_it 48 fa, x_it 10 pm, x_it 10 pw, .inr (2, [.ref 22]), x_lg 24 rw, x_it 24 fr, x_it 24 ba] ++ M : mm_H) (some (.int (if ¬ s ≤ 0 ∧ ¬ 256 ≤ s ∧ ¬ pl0 s.toNatClampNeg = -1 then ke0 s.toNatClampNeg else 0)), ([.inr (3, [.ref 1, .ref 7, .ref 13, .ref 14, .ref 21, .ref 23, .ref 24]), .inr (0, [.ref 2, .ref 3, .ref 4, .ref 5, .ref 6]), x_it 256 pl0, x_it 256 ke0, x_it 4 sz0, x_it 96 se0, x_it 4 gr0, .inr (0, [.ref 8, .ref 9, .ref 10, .ref 11, .ref 12]), x_it 256 pl1, x_it 256 ke1, x_it 4 sz1, x_it 96 se1, x_it 4 gr1, x_it 8 im, .inr (1, [.ref 15, .ref 16, .ref 17, .ref 18, .ref 19, .ref 20, .int ro, .int co, .int mo, .long mi, .int ki]), x_it 2304 ce, x_it 2304 wo, x_it 31 pv, x_it 48 fa, x_it 10 pm, x_it 10 pw, .inr (2, [.ref 22]), x_lg 24 rw, x_it 24 fr, x_it 24 ba] ++ M : mm_H)) := by
  have E1 := v_holds0 (pl0 := pl0) (ke0 := ke0) (sz0 := sz0) (se0 := se0) (gr0 := gr0) (pl1 := pl1) (ke1 := ke1) (sz1 := sz1) (se1 := se1) (gr1 := gr1) (im := im) (ce := ce) (wo := wo) (pv := pv) (fa := fa) (pm := pm) (pw := pw) (fr := fr) (ba := ba) (rw := rw) (ro := ro) (co := co) (mo := mo) (mi := mi) (ki := ki) (M := M) s
  refine ⟨kq_44, rfl, rfl, ?_⟩
  by_cases hh : ¬ s ≤ 0 ∧ ¬ 256 ≤ s ∧ ¬ pl0 s.toNatClampNeg = -1
  · rw [if_pos hh] at E1 ⊢
    obtain ⟨h1, h2, h3⟩ := hh
    obtain ⟨j, hj, rfl⟩ := x_255 h1 h2
    rw [mm_cl (by omega)]
    refine mm_E.s rfl rfl rfl (fun _ => rfl) ?_
    refine mm_E.s rfl rfl rfl (fun _ => rfl) ?_
    refine mm_E.iv rfl rfl rfl rfl rfl rfl v_cx0 ?_
    refine mm_E.s rfl rfl rfl (fun _ => rfl) ?_
    refine mm_E.s rfl rfl rfl (fun _ => rfl) ?_
    refine mm_E.s rfl rfl rfl (fun _ => rfl) ?_
    refine mm_E.s rfl rfl rfl (fun _ => rfl) ?_
    refine mm_E.s rfl rfl rfl (fun _ => rfl) ?_
    refine mm_E.iv rfl rfl rfl rfl rfl rfl E1 ?_
    refine mm_E.s rfl rfl rfl (fun _ => rfl) ?_
    refine mm_E.s rfl rfl rfl (fun _ => rfl) ?_
    refine mm_E.s rfl rfl rfl (fun _ => rfl) ?_
    refine mm_E.iv rfl rfl rfl rfl rfl rfl (v_kept0 hj) ?_
    exact mm_E.ret rfl rfl rfl
  · rw [if_neg hh] at E1 ⊢
    refine mm_E.s rfl rfl rfl (fun _ => rfl) ?_
    refine mm_E.s rfl rfl rfl (fun _ => rfl) ?_
    refine mm_E.iv rfl rfl rfl rfl rfl rfl v_cx0 ?_
    refine mm_E.s rfl rfl rfl (fun _ => rfl) ?_
    refine mm_E.s rfl rfl rfl (fun _ => rfl) ?_
    refine mm_E.s rfl rfl rfl (fun _ => rfl) ?_
    refine mm_E.s rfl rfl rfl (fun _ => rfl) ?_
    refine mm_E.s rfl rfl rfl (fun _ => rfl) ?_
    refine mm_E.iv rfl rfl rfl rfl rfl rfl E1 ?_
    refine mm_E.s rfl rfl rfl (fun _ => rfl) ?_
    refine mm_E.s rfl rfl rfl (fun _ => rfl) ?_
    exact mm_E.ret rfl rfl rfl
theorem v_put10 {pl0 ke0 sz0 se0 gr0 pl1 ke1 sz1 se1 gr1 im ce wo pv fa pm pw fr ba : Nat → Int32} {rw : Nat → Int64} {ro co mo : Int32} {mi : Int64} {ki : Int32} {M : mm_H} {s x : Int32} (hh : ¬ s ≤ 0 ∧ ¬ 256 ≤ s ∧ ¬ pl0 s.toNatClampNeg = -1) (x9 : ¬ x < -9) (y9 : x ≤ 9) : mm_EC kM 43 [.ref 0, .int 0, .int s, .int x] ([.inr (3, [.ref 1, .ref 7, .ref 13, .ref 14, .ref 21, .ref 23, .ref 24]), .inr (0, [.ref 2, .ref 3, .ref 4, .ref 5, .ref 6]), x_it 256 pl0, x_it 256 ke0, x_it 4 sz0, x_it 96 se0, x_it 4 gr0, .inr (0, [.ref 8, .ref 9, .ref 10, .ref 11, .ref 12]), x_it 256 pl1, x_it 256 ke1, x_it 4 sz1, x_it 96 se1, x_it 4 gr1, x_it 8 im, .inr (1, [.ref 15, .ref 16, .ref 17, .ref 18, .ref 19, .ref 20, .int ro, .int co, .int mo, .long mi, .int ki]), x_it 2304 ce, x_it 2304 wo, x_it 31 pv, x_it 48 fa, x_it 10 pm, x_it 10 pw, .inr (2, [.ref 22]), x_lg 24 rw, x_it 24 fr, x_it 24 ba] ++ M : mm_H) (some (.int 1), ([.inr (3, [.ref 1, .ref 7, .ref 13, .ref 14, .ref 21, .ref 23, .ref 24]), .inr (0, [.ref 2, .ref 3, .ref 4, .ref 5, .ref 6]), x_it 256 pl0, x_it 256 (upd ke0 s.toNatClampNeg x), x_it 4 sz0, x_it 96 se0, x_it 4 gr0, .inr (0, [.ref 8, .ref 9, .ref 10, .ref 11, .ref 12]), x_it 256 pl1, x_it 256 ke1, x_it 4 sz1, x_it 96 se1, x_it 4 gr1, x_it 8 im, .inr (1, [.ref 15, .ref 16, .ref 17, .ref 18, .ref 19, .ref 20, .int ro, .int co, .int mo, .long mi, .int ki]), x_it 2304 ce, x_it 2304 wo, x_it 31 pv, x_it 48 fa, x_it 10 pm, x_it 10 pw, .inr (2, [.ref 22]), x_lg 24 rw, x_it 24 fr, x_it 24 ba] ++ M : mm_H)) := by
  have E1 := v_holds0 (pl0 := pl0) (ke0 := ke0) (sz0 := sz0) (se0 := se0) (gr0 := gr0) (pl1 := pl1) (ke1 := ke1) (sz1 := sz1) (se1 := se1) (gr1 := gr1) (im := im) (ce := ce) (wo := wo) (pv := pv) (fa := fa) (pm := pm) (pw := pw) (fr := fr) (ba := ba) (rw := rw) (ro := ro) (co := co) (mo := mo) (mi := mi) (ki := ki) (M := M) s
  rw [if_pos hh] at E1
  obtain ⟨h1, h2, h3⟩ := hh
  obtain ⟨j, hj, rfl⟩ := x_255 h1 h2
  rw [mm_cl (by omega)]
  refine ⟨kq_43, rfl, rfl, ?_⟩
  refine mm_E.s rfl rfl rfl (fun _ => rfl) ?_
  refine mm_E.s rfl rfl rfl (fun _ => rfl) ?_
  refine mm_E.iv rfl rfl rfl rfl rfl rfl v_cx0 ?_
  refine mm_E.s rfl rfl rfl (fun _ => rfl) ?_
  refine mm_E.s rfl rfl rfl (fun _ => rfl) ?_
  refine mm_E.s rfl rfl rfl (fun _ => rfl) ?_
  refine mm_E.s rfl rfl rfl (fun _ => rfl) ?_
  refine mm_E.s rfl rfl rfl (fun _ => rfl) ?_
  refine mm_E.iv rfl rfl rfl rfl rfl rfl E1 ?_
  refine mm_E.s rfl rfl rfl (fun _ => rfl) ?_
  refine mm_E.s rfl rfl rfl (fun _ => rfl) ?_
  refine mm_E.s rfl rfl rfl (fun _ => rfl) ?_
  refine mm_E.s rfl rfl rfl (fun _ => if_neg x9) ?_
  refine mm_E.s rfl rfl rfl (fun _ => rfl) ?_
  refine mm_E.s rfl rfl rfl (fun _ => rfl) ?_
  refine mm_E.s rfl rfl rfl (fun _ => if_pos y9) ?_
  refine mm_E.s rfl rfl rfl (fun _ => rfl) ?_
  refine mm_E.s rfl rfl rfl (fun _ => rfl) ?_
  refine mm_E.s rfl rfl rfl (fun _ => rfl) ?_
  refine mm_E.iv rfl rfl rfl rfl rfl rfl (v_keep0 hj x) ?_
  refine mm_E.s rfl rfl rfl (fun _ => rfl) ?_
  exact mm_E.ret rfl rfl rfl
theorem v_put00 {pl0 ke0 sz0 se0 gr0 pl1 ke1 sz1 se1 gr1 im ce wo pv fa pm pw fr ba : Nat → Int32} {rw : Nat → Int64} {ro co mo : Int32} {mi : Int64} {ki : Int32} {M : mm_H} {s x : Int32} (hh : ¬ ((¬ s ≤ 0 ∧ ¬ 256 ≤ s ∧ ¬ pl0 s.toNatClampNeg = -1) ∧ ¬ x < -9 ∧ x ≤ 9)) : mm_EC kM 43 [.ref 0, .int 0, .int s, .int x] ([.inr (3, [.ref 1, .ref 7, .ref 13, .ref 14, .ref 21, .ref 23, .ref 24]), .inr (0, [.ref 2, .ref 3, .ref 4, .ref 5, .ref 6]), x_it 256 pl0, x_it 256 ke0, x_it 4 sz0, x_it 96 se0, x_it 4 gr0, .inr (0, [.ref 8, .ref 9, .ref 10, .ref 11, .ref 12]), x_it 256 pl1, x_it 256 ke1, x_it 4 sz1, x_it 96 se1, x_it 4 gr1, x_it 8 im, .inr (1, [.ref 15, .ref 16, .ref 17, .ref 18, .ref 19, .ref 20, .int ro, .int co, .int mo, .long mi, .int ki]), x_it 2304 ce, x_it 2304 wo, x_it 31 pv, x_it 48 fa, x_it 10 pm, x_it 10 pw, .inr (2, [.ref 22]), x_lg 24 rw, x_it 24 fr, x_it 24 ba] ++ M : mm_H) (some (.int 0), ([.inr (3, [.ref 1, .ref 7, .ref 13, .ref 14, .ref 21, .ref 23, .ref 24]), .inr (0, [.ref 2, .ref 3, .ref 4, .ref 5, .ref 6]), x_it 256 pl0, x_it 256 ke0, x_it 4 sz0, x_it 96 se0, x_it 4 gr0, .inr (0, [.ref 8, .ref 9, .ref 10, .ref 11, .ref 12]), x_it 256 pl1, x_it 256 ke1, x_it 4 sz1, x_it 96 se1, x_it 4 gr1, x_it 8 im, .inr (1, [.ref 15, .ref 16, .ref 17, .ref 18, .ref 19, .ref 20, .int ro, .int co, .int mo, .long mi, .int ki]), x_it 2304 ce, x_it 2304 wo, x_it 31 pv, x_it 48 fa, x_it 10 pm, x_it 10 pw, .inr (2, [.ref 22]), x_lg 24 rw, x_it 24 fr, x_it 24 ba] ++ M : mm_H)) := by
  have E1 := v_holds0 (pl0 := pl0) (ke0 := ke0) (sz0 := sz0) (se0 := se0) (gr0 := gr0) (pl1 := pl1) (ke1 := ke1) (sz1 := sz1) (se1 := se1) (gr1 := gr1) (im := im) (ce := ce) (wo := wo) (pv := pv) (fa := fa) (pm := pm) (pw := pw) (fr := fr) (ba := ba) (rw := rw) (ro := ro) (co := co) (mo := mo) (mi := mi) (ki := ki) (M := M) s
  refine ⟨kq_43, rfl, rfl, ?_⟩
  by_cases h0 : ¬ s ≤ 0 ∧ ¬ 256 ≤ s ∧ ¬ pl0 s.toNatClampNeg = -1
  · rw [if_pos h0] at E1
    by_cases x9 : x < -9
    · skip
      refine mm_E.s rfl rfl rfl (fun _ => rfl) ?_
      refine mm_E.s rfl rfl rfl (fun _ => rfl) ?_
      refine mm_E.iv rfl rfl rfl rfl rfl rfl v_cx0 ?_
      refine mm_E.s rfl rfl rfl (fun _ => rfl) ?_
      refine mm_E.s rfl rfl rfl (fun _ => rfl) ?_
      refine mm_E.s rfl rfl rfl (fun _ => rfl) ?_
      refine mm_E.s rfl rfl rfl (fun _ => rfl) ?_
      refine mm_E.s rfl rfl rfl (fun _ => rfl) ?_
      refine mm_E.iv rfl rfl rfl rfl rfl rfl E1 ?_
      refine mm_E.s rfl rfl rfl (fun _ => rfl) ?_
      refine mm_E.s rfl rfl rfl (fun _ => rfl) ?_
      refine mm_E.s rfl rfl rfl (fun _ => rfl) ?_
      refine mm_E.s rfl rfl rfl (fun _ => if_pos x9) ?_
      refine mm_E.s rfl rfl rfl (fun _ => rfl) ?_
      exact mm_E.ret rfl rfl rfl
    · have y9 : ¬ x ≤ 9 := fun q => hh ⟨h0, x9, q⟩
      refine mm_E.s rfl rfl rfl (fun _ => rfl) ?_
      refine mm_E.s rfl rfl rfl (fun _ => rfl) ?_
      refine mm_E.iv rfl rfl rfl rfl rfl rfl v_cx0 ?_
      refine mm_E.s rfl rfl rfl (fun _ => rfl) ?_
      refine mm_E.s rfl rfl rfl (fun _ => rfl) ?_
      refine mm_E.s rfl rfl rfl (fun _ => rfl) ?_
      refine mm_E.s rfl rfl rfl (fun _ => rfl) ?_
      refine mm_E.s rfl rfl rfl (fun _ => rfl) ?_
      refine mm_E.iv rfl rfl rfl rfl rfl rfl E1 ?_
      refine mm_E.s rfl rfl rfl (fun _ => rfl) ?_
      refine mm_E.s rfl rfl rfl (fun _ => rfl) ?_
      refine mm_E.s rfl rfl rfl (fun _ => rfl) ?_
      refine mm_E.s rfl rfl rfl (fun _ => if_neg x9) ?_
      refine mm_E.s rfl rfl rfl (fun _ => rfl) ?_
      refine mm_E.s rfl rfl rfl (fun _ => rfl) ?_
      refine mm_E.s rfl rfl rfl (fun _ => if_neg y9) ?_
      refine mm_E.s rfl rfl rfl (fun _ => rfl) ?_
      exact mm_E.ret rfl rfl rfl
  · rw [if_neg h0] at E1
    refine mm_E.s rfl rfl rfl (fun _ => rfl) ?_
    refine mm_E.s rfl rfl rfl (fun _ => rfl) ?_
    refine mm_E.iv rfl rfl rfl rfl rfl rfl v_cx0 ?_
    refine mm_E.s rfl rfl rfl (fun _ => rfl) ?_
    refine mm_E.s rfl rfl rfl (fun _ => rfl) ?_
    refine mm_E.s rfl rfl rfl (fun _ => rfl) ?_
    refine mm_E.s rfl rfl rfl (fun _ => rfl) ?_
    refine mm_E.s rfl rfl rfl (fun _ => rfl) ?_
    refine mm_E.iv rfl rfl rfl rfl rfl rfl E1 ?_
    refine mm_E.s rfl rfl rfl (fun _ => rfl) ?_
    refine mm_E.s rfl rfl rfl (fun _ => rfl) ?_
    exact mm_E.ret rfl rfl rfl
theorem v_bd10 {pl0 ke0 sz0 se0 gr0 pl1 ke1 sz1 se1 gr1 im ce wo pv fa pm pw fr ba : Nat → Int32} {rw : Nat → Int64} {ro co mo : Int32} {mi : Int64} {ki : Int32} {M : mm_H} {s : Int32} {a m : Nat} (hh : ¬ s ≤ 0 ∧ ¬ 256 ≤ s ∧ ¬ pl0 s.toNatClampNeg = -1) (hd : x_dm s + 1 = nI a) (ha : a < 4) (hm : x_sok sz0 se0 a m) : mm_EC kM 45 [.ref 0, .int 0, .int s] ([.inr (3, [.ref 1, .ref 7, .ref 13, .ref 14, .ref 21, .ref 23, .ref 24]), .inr (0, [.ref 2, .ref 3, .ref 4, .ref 5, .ref 6]), x_it 256 pl0, x_it 256 ke0, x_it 4 sz0, x_it 96 se0, x_it 4 gr0, .inr (0, [.ref 8, .ref 9, .ref 10, .ref 11, .ref 12]), x_it 256 pl1, x_it 256 ke1, x_it 4 sz1, x_it 96 se1, x_it 4 gr1, x_it 8 im, .inr (1, [.ref 15, .ref 16, .ref 17, .ref 18, .ref 19, .ref 20, .int ro, .int co, .int mo, .long mi, .int ki]), x_it 2304 ce, x_it 2304 wo, x_it 31 pv, x_it 48 fa, x_it 10 pm, x_it 10 pw, .inr (2, [.ref 22]), x_lg 24 rw, x_it 24 fr, x_it 24 ba] ++ M : mm_H) (some (.int (x_ba se0 ke0 a s m)), ([.inr (3, [.ref 1, .ref 7, .ref 13, .ref 14, .ref 21, .ref 23, .ref 24]), .inr (0, [.ref 2, .ref 3, .ref 4, .ref 5, .ref 6]), x_it 256 pl0, x_it 256 ke0, x_it 4 sz0, x_it 96 se0, x_it 4 gr0, .inr (0, [.ref 8, .ref 9, .ref 10, .ref 11, .ref 12]), x_it 256 pl1, x_it 256 ke1, x_it 4 sz1, x_it 96 se1, x_it 4 gr1, x_it 8 im, .inr (1, [.ref 15, .ref 16, .ref 17, .ref 18, .ref 19, .ref 20, .int ro, .int co, .int mo, .long mi, .int ki]), x_it 2304 ce, x_it 2304 wo, x_it 31 pv, x_it 48 fa, x_it 10 pm, x_it 10 pw, .inr (2, [.ref 22]), x_lg 24 rw, x_it 24 fr, x_it 24 ba] ++ M : mm_H)) := by
  have E1 := v_holds0 (pl0 := pl0) (ke0 := ke0) (sz0 := sz0) (se0 := se0) (gr0 := gr0) (pl1 := pl1) (ke1 := ke1) (sz1 := sz1) (se1 := se1) (gr1 := gr1) (im := im) (ce := ce) (wo := wo) (pv := pv) (fa := fa) (pm := pm) (pw := pw) (fr := fr) (ba := ba) (rw := rw) (ro := ro) (co := co) (mo := mo) (mi := mi) (ki := ki) (M := M) s
  rw [if_pos hh] at E1
  refine ⟨kq_45, rfl, rfl, ?_⟩
  refine mm_E.s rfl rfl rfl (fun _ => rfl) ?_
  refine mm_E.s rfl rfl rfl (fun _ => rfl) ?_
  refine mm_E.iv rfl rfl rfl rfl rfl rfl v_cx0 ?_
  refine mm_E.s rfl rfl rfl (fun _ => rfl) ?_
  refine mm_E.s rfl rfl rfl (fun _ => rfl) ?_
  refine mm_E.s rfl rfl rfl (fun _ => rfl) ?_
  refine mm_E.s rfl rfl rfl (fun _ => rfl) ?_
  refine mm_E.s rfl rfl rfl (fun _ => rfl) ?_
  refine mm_E.iv rfl rfl rfl rfl rfl rfl E1 ?_
  refine mm_E.s rfl rfl rfl (fun _ => rfl) ?_
  refine mm_E.s rfl rfl rfl (fun _ => rfl) ?_
  refine mm_E.s rfl rfl rfl (fun _ => rfl) ?_
  refine mm_E.iv rfl rfl rfl rfl rfl rfl (v_ba0 hd ha hm) ?_
  exact mm_E.ret rfl rfl rfl
theorem v_bd00 {pl0 ke0 sz0 se0 gr0 pl1 ke1 sz1 se1 gr1 im ce wo pv fa pm pw fr ba : Nat → Int32} {rw : Nat → Int64} {ro co mo : Int32} {mi : Int64} {ki : Int32} {M : mm_H} {s : Int32} (hh : ¬ (¬ s ≤ 0 ∧ ¬ 256 ≤ s ∧ ¬ pl0 s.toNatClampNeg = -1)) : mm_EC kM 45 [.ref 0, .int 0, .int s] ([.inr (3, [.ref 1, .ref 7, .ref 13, .ref 14, .ref 21, .ref 23, .ref 24]), .inr (0, [.ref 2, .ref 3, .ref 4, .ref 5, .ref 6]), x_it 256 pl0, x_it 256 ke0, x_it 4 sz0, x_it 96 se0, x_it 4 gr0, .inr (0, [.ref 8, .ref 9, .ref 10, .ref 11, .ref 12]), x_it 256 pl1, x_it 256 ke1, x_it 4 sz1, x_it 96 se1, x_it 4 gr1, x_it 8 im, .inr (1, [.ref 15, .ref 16, .ref 17, .ref 18, .ref 19, .ref 20, .int ro, .int co, .int mo, .long mi, .int ki]), x_it 2304 ce, x_it 2304 wo, x_it 31 pv, x_it 48 fa, x_it 10 pm, x_it 10 pw, .inr (2, [.ref 22]), x_lg 24 rw, x_it 24 fr, x_it 24 ba] ++ M : mm_H) (some (.int 0), ([.inr (3, [.ref 1, .ref 7, .ref 13, .ref 14, .ref 21, .ref 23, .ref 24]), .inr (0, [.ref 2, .ref 3, .ref 4, .ref 5, .ref 6]), x_it 256 pl0, x_it 256 ke0, x_it 4 sz0, x_it 96 se0, x_it 4 gr0, .inr (0, [.ref 8, .ref 9, .ref 10, .ref 11, .ref 12]), x_it 256 pl1, x_it 256 ke1, x_it 4 sz1, x_it 96 se1, x_it 4 gr1, x_it 8 im, .inr (1, [.ref 15, .ref 16, .ref 17, .ref 18, .ref 19, .ref 20, .int ro, .int co, .int mo, .long mi, .int ki]), x_it 2304 ce, x_it 2304 wo, x_it 31 pv, x_it 48 fa, x_it 10 pm, x_it 10 pw, .inr (2, [.ref 22]), x_lg 24 rw, x_it 24 fr, x_it 24 ba] ++ M : mm_H)) := by
  have E1 := v_holds0 (pl0 := pl0) (ke0 := ke0) (sz0 := sz0) (se0 := se0) (gr0 := gr0) (pl1 := pl1) (ke1 := ke1) (sz1 := sz1) (se1 := se1) (gr1 := gr1) (im := im) (ce := ce) (wo := wo) (pv := pv) (fa := fa) (pm := pm) (pw := pw) (fr := fr) (ba := ba) (rw := rw) (ro := ro) (co := co) (mo := mo) (mi := mi) (ki := ki) (M := M) s
  rw [if_neg hh] at E1
  refine ⟨kq_45, rfl, rfl, ?_⟩
  refine mm_E.s rfl rfl rfl (fun _ => rfl) ?_
  refine mm_E.s rfl rfl rfl (fun _ => rfl) ?_
  refine mm_E.iv rfl rfl rfl rfl rfl rfl v_cx0 ?_
  refine mm_E.s rfl rfl rfl (fun _ => rfl) ?_
  refine mm_E.s rfl rfl rfl (fun _ => rfl) ?_
  refine mm_E.s rfl rfl rfl (fun _ => rfl) ?_
  refine mm_E.s rfl rfl rfl (fun _ => rfl) ?_
  refine mm_E.s rfl rfl rfl (fun _ => rfl) ?_
  refine mm_E.iv rfl rfl rfl rfl rfl rfl E1 ?_
  refine mm_E.s rfl rfl rfl (fun _ => rfl) ?_
  refine mm_E.s rfl rfl rfl (fun _ => rfl) ?_
  exact mm_E.ret rfl rfl rfl

theorem v_drop0 {pl0 ke0 sz0 se0 gr0 pl1 ke1 sz1 se1 gr1 im ce wo pv fa pm pw fr ba : Nat → Int32} {rw : Nat → Int64} {ro co mo : Int32} {mi : Int64} {ki : Int32} {M : mm_H} : mm_EC kM 3 [.ref 1] ([.inr (3, [.ref 1, .ref 7, .ref 13, .ref 14, .ref 21, .ref 23, .ref 24]), .inr (0, [.ref 2, .ref 3, .ref 4, .ref 5, .ref 6]), x_it 256 pl0, x_it 256 ke0, x_it 4 sz0, x_it 96 se0, x_it 4 gr0, .inr (0, [.ref 8, .ref 9, .ref 10, .ref 11, .ref 12]), x_it 256 pl1, x_it 256 ke1, x_it 4 sz1, x_it 96 se1, x_it 4 gr1, x_it 8 im, .inr (1, [.ref 15, .ref 16, .ref 17, .ref 18, .ref 19, .ref 20, .int ro, .int co, .int mo, .long mi, .int ki]), x_it 2304 ce, x_it 2304 wo, x_it 31 pv, x_it 48 fa, x_it 10 pm, x_it 10 pw, .inr (2, [.ref 22]), x_lg 24 rw, x_it 24 fr, x_it 24 ba] ++ M : mm_H) (none, ([.inr (3, [.ref 1, .ref 7, .ref 13, .ref 14, .ref 21, .ref 23, .ref 24]), .inr (0, [.ref 2, .ref 3, .ref 4, .ref 5, .ref 6]), x_it 256 (x_fill pl0 (-1) 256), x_it 256 (x_fill ke0 0 256), x_it 4 (x_fill sz0 0 4), x_it 96 se0, x_it 4 gr0, .inr (0, [.ref 8, .ref 9, .ref 10, .ref 11, .ref 12]), x_it 256 pl1, x_it 256 ke1, x_it 4 sz1, x_it 96 se1, x_it 4 gr1, x_it 8 im, .inr (1, [.ref 15, .ref 16, .ref 17, .ref 18, .ref 19, .ref 20, .int ro, .int co, .int mo, .long mi, .int ki]), x_it 2304 ce, x_it 2304 wo, x_it 31 pv, x_it 48 fa, x_it 10 pm, x_it 10 pw, .inr (2, [.ref 22]), x_lg 24 rw, x_it 24 fr, x_it 24 ba] ++ M : mm_H)) := by
  refine ⟨kq_3, rfl, rfl, ?_⟩
  refine mm_E.s rfl rfl rfl (fun _ => rfl) ?_
  refine mm_E.gf rfl rfl rfl rfl rfl ?_
  refine mm_E.s rfl rfl rfl (fun _ => rfl) ?_
  refine mm_E.ic rfl rfl rfl rfl rfl (x_fill_EC rfl (by decide)) ?_
  refine mm_E.s rfl rfl rfl (fun _ => rfl) ?_
  refine mm_E.gf rfl rfl rfl rfl rfl ?_
  refine mm_E.s rfl rfl rfl (fun _ => rfl) ?_
  refine mm_E.ic rfl rfl rfl rfl rfl (x_fill_EC rfl (by decide)) ?_
  refine mm_E.s rfl rfl rfl (fun _ => rfl) ?_
  refine mm_E.gf rfl rfl rfl rfl rfl ?_
  refine mm_E.s rfl rfl rfl (fun _ => rfl) ?_
  refine mm_E.ic rfl rfl rfl rfl rfl (x_fill_EC rfl (by decide)) ?_
  exact mm_E.ret rfl rfl rfl
theorem v_clear0 {pl0 ke0 sz0 se0 gr0 pl1 ke1 sz1 se1 gr1 im ce wo pv fa pm pw fr ba : Nat → Int32} {rw : Nat → Int64} {ro co mo : Int32} {mi : Int64} {ki : Int32} {M : mm_H} : mm_EC kM 35 [.ref 0, .int 0] ([.inr (3, [.ref 1, .ref 7, .ref 13, .ref 14, .ref 21, .ref 23, .ref 24]), .inr (0, [.ref 2, .ref 3, .ref 4, .ref 5, .ref 6]), x_it 256 pl0, x_it 256 ke0, x_it 4 sz0, x_it 96 se0, x_it 4 gr0, .inr (0, [.ref 8, .ref 9, .ref 10, .ref 11, .ref 12]), x_it 256 pl1, x_it 256 ke1, x_it 4 sz1, x_it 96 se1, x_it 4 gr1, x_it 8 im, .inr (1, [.ref 15, .ref 16, .ref 17, .ref 18, .ref 19, .ref 20, .int ro, .int co, .int mo, .long mi, .int ki]), x_it 2304 ce, x_it 2304 wo, x_it 31 pv, x_it 48 fa, x_it 10 pm, x_it 10 pw, .inr (2, [.ref 22]), x_lg 24 rw, x_it 24 fr, x_it 24 ba] ++ M : mm_H) (some (.int 1), ([.inr (3, [.ref 1, .ref 7, .ref 13, .ref 14, .ref 21, .ref 23, .ref 24]), .inr (0, [.ref 2, .ref 3, .ref 4, .ref 5, .ref 6]), x_it 256 (x_fill pl0 (-1) 256), x_it 256 (x_fill ke0 0 256), x_it 4 (x_fill sz0 0 4), x_it 96 se0, x_it 4 gr0, .inr (0, [.ref 8, .ref 9, .ref 10, .ref 11, .ref 12]), x_it 256 pl1, x_it 256 ke1, x_it 4 sz1, x_it 96 se1, x_it 4 gr1, x_it 8 im, .inr (1, [.ref 15, .ref 16, .ref 17, .ref 18, .ref 19, .ref 20, .int ro, .int co, .int mo, .long mi, .int ki]), x_it 2304 ce, x_it 2304 wo, x_it 31 pv, x_it 48 fa, x_it 10 pm, x_it 10 pw, .inr (2, [.ref 22]), x_lg 24 rw, x_it 24 fr, x_it 24 ba] ++ M : mm_H)) := by
  refine ⟨kq_35, rfl, rfl, ?_⟩
  refine mm_E.s rfl rfl rfl (fun _ => rfl) ?_
  refine mm_E.s rfl rfl rfl (fun _ => rfl) ?_
  refine mm_E.iv rfl rfl rfl rfl rfl rfl v_cx0 ?_
  refine mm_E.s rfl rfl rfl (fun _ => rfl) ?_
  refine mm_E.s rfl rfl rfl (fun _ => rfl) ?_
  refine mm_E.s rfl rfl rfl (fun _ => rfl) ?_
  refine mm_E.s rfl rfl rfl (fun _ => rfl) ?_
  refine mm_E.iv rfl rfl rfl rfl rfl rfl v_drop0 ?_
  refine mm_E.s rfl rfl rfl (fun _ => rfl) ?_
  exact mm_E.ret rfl rfl rfl

theorem v_addB0 {pl0 ke0 sz0 se0 gr0 pl1 ke1 sz1 se1 gr1 im ce wo pv fa pm pw fr ba : Nat → Int32} {rw : Nat → Int64} {ro co mo : Int32} {mi : Int64} {ki : Int32} {M : mm_H} {s : Int32} (hb : ¬ (¬ s < 1 ∧ ¬ 256 ≤ s ∧ x_bc s ≤ 4)) : mm_EC kM 34 [.ref 0, .int 0, .int s] ([.inr (3, [.ref 1, .ref 7, .ref 13, .ref 14, .ref 21, .ref 23, .ref 24]), .inr (0, [.ref 2, .ref 3, .ref 4, .ref 5, .ref 6]), x_it 256 pl0, x_it 256 ke0, x_it 4 sz0, x_it 96 se0, x_it 4 gr0, .inr (0, [.ref 8, .ref 9, .ref 10, .ref 11, .ref 12]), x_it 256 pl1, x_it 256 ke1, x_it 4 sz1, x_it 96 se1, x_it 4 gr1, x_it 8 im, .inr (1, [.ref 15, .ref 16, .ref 17, .ref 18, .ref 19, .ref 20, .int ro, .int co, .int mo, .long mi, .int ki]), x_it 2304 ce, x_it 2304 wo, x_it 31 pv, x_it 48 fa, x_it 10 pm, x_it 10 pw, .inr (2, [.ref 22]), x_lg 24 rw, x_it 24 fr, x_it 24 ba] ++ M : mm_H) (some (.int (-1)), ([.inr (3, [.ref 1, .ref 7, .ref 13, .ref 14, .ref 21, .ref 23, .ref 24]), .inr (0, [.ref 2, .ref 3, .ref 4, .ref 5, .ref 6]), x_it 256 pl0, x_it 256 ke0, x_it 4 sz0, x_it 96 se0, x_it 4 gr0, .inr (0, [.ref 8, .ref 9, .ref 10, .ref 11, .ref 12]), x_it 256 pl1, x_it 256 ke1, x_it 4 sz1, x_it 96 se1, x_it 4 gr1, x_it 8 im, .inr (1, [.ref 15, .ref 16, .ref 17, .ref 18, .ref 19, .ref 20, .int ro, .int co, .int mo, .long mi, .int ki]), x_it 2304 ce, x_it 2304 wo, x_it 31 pv, x_it 48 fa, x_it 10 pm, x_it 10 pw, .inr (2, [.ref 22]), x_lg 24 rw, x_it 24 fr, x_it 24 ba] ++ M : mm_H)) := by
  refine ⟨kq_34, rfl, rfl, ?_⟩
  by_cases h1 : s < 1
  · skip
    refine mm_E.s rfl rfl rfl (fun _ => rfl) ?_
    refine mm_E.s rfl rfl rfl (fun _ => rfl) ?_
    refine mm_E.iv rfl rfl rfl rfl rfl rfl v_cx0 ?_
    refine mm_E.s rfl rfl rfl (fun _ => rfl) ?_
    refine mm_E.s rfl rfl rfl (fun _ => rfl) ?_
    refine mm_E.s rfl rfl rfl (fun _ => rfl) ?_
    refine mm_E.s rfl rfl rfl (fun _ => rfl) ?_
    refine mm_E.s rfl rfl rfl (fun _ => rfl) ?_
    refine mm_E.s rfl rfl rfl (fun _ => if_pos h1) ?_
    refine mm_E.s rfl rfl rfl (fun _ => rfl) ?_
    exact mm_E.ret rfl rfl rfl
  · by_cases h2 : 256 ≤ s
    · skip
      refine mm_E.s rfl rfl rfl (fun _ => rfl) ?_
      refine mm_E.s rfl rfl rfl (fun _ => rfl) ?_
      refine mm_E.iv rfl rfl rfl rfl rfl rfl v_cx0 ?_
      refine mm_E.s rfl rfl rfl (fun _ => rfl) ?_
      refine mm_E.s rfl rfl rfl (fun _ => rfl) ?_
      refine mm_E.s rfl rfl rfl (fun _ => rfl) ?_
      refine mm_E.s rfl rfl rfl (fun _ => rfl) ?_
      refine mm_E.s rfl rfl rfl (fun _ => rfl) ?_
      refine mm_E.s rfl rfl rfl (fun _ => if_neg h1) ?_
      refine mm_E.s rfl rfl rfl (fun _ => rfl) ?_
      refine mm_E.s rfl rfl rfl (fun _ => rfl) ?_
      refine mm_E.s rfl rfl rfl (fun _ => if_pos h2) ?_
      refine mm_E.s rfl rfl rfl (fun _ => rfl) ?_
      exact mm_E.ret rfl rfl rfl
    · have h4 : ¬ x_bc s ≤ 4 := fun q => hb ⟨h1, h2, q⟩
      refine mm_E.s rfl rfl rfl (fun _ => rfl) ?_
      refine mm_E.s rfl rfl rfl (fun _ => rfl) ?_
      refine mm_E.iv rfl rfl rfl rfl rfl rfl v_cx0 ?_
      refine mm_E.s rfl rfl rfl (fun _ => rfl) ?_
      refine mm_E.s rfl rfl rfl (fun _ => rfl) ?_
      refine mm_E.s rfl rfl rfl (fun _ => rfl) ?_
      refine mm_E.s rfl rfl rfl (fun _ => rfl) ?_
      refine mm_E.s rfl rfl rfl (fun _ => rfl) ?_
      refine mm_E.s rfl rfl rfl (fun _ => if_neg h1) ?_
      refine mm_E.s rfl rfl rfl (fun _ => rfl) ?_
      refine mm_E.s rfl rfl rfl (fun _ => rfl) ?_
      refine mm_E.s rfl rfl rfl (fun _ => if_neg h2) ?_
      refine mm_E.s rfl rfl rfl (fun _ => rfl) ?_
      refine mm_E.ic rfl rfl rfl rfl rfl (z_bc _) ?_
      refine mm_E.s rfl rfl rfl (fun _ => rfl) ?_
      refine mm_E.s rfl rfl rfl (fun _ => if_neg h4) ?_
      refine mm_E.s rfl rfl rfl (fun _ => rfl) ?_
      exact mm_E.ret rfl rfl rfl
theorem v_addC0 {pl0 ke0 sz0 se0 gr0 pl1 ke1 sz1 se1 gr1 im ce wo pv fa pm pw fr ba : Nat → Int32} {rw : Nat → Int64} {ro co mo : Int32} {mi : Int64} {ki : Int32} {M : mm_H} {s : Nat} (hs1 : 1 ≤ s) (hs : s < 256) (h4 : x_bc (nI s) ≤ 4) {r : Int32} {h1 : mm_H} (E1 : mm_EC kM 10 [.ref 1, .int (nI s)] ([.inr (3, [.ref 1, .ref 7, .ref 13, .ref 14, .ref 21, .ref 23, .ref 24]), .inr (0, [.ref 2, .ref 3, .ref 4, .ref 5, .ref 6]), x_it 256 pl0, x_it 256 ke0, x_it 4 sz0, x_it 96 se0, x_it 4 gr0, .inr (0, [.ref 8, .ref 9, .ref 10, .ref 11, .ref 12]), x_it 256 pl1, x_it 256 ke1, x_it 4 sz1, x_it 96 se1, x_it 4 gr1, x_it 8 im, .inr (1, [.ref 15, .ref 16, .ref 17, .ref 18, .ref 19, .ref 20, .int ro, .int co, .int mo, .long mi, .int ki]), x_it 2304 ce, x_it 2304 wo, x_it 31 pv, x_it 48 fa, x_it 10 pm, x_it 10 pw, .inr (2, [.ref 22]), x_lg 24 rw, x_it 24 fr, x_it 24 ba] ++ M : mm_H) (some (.int r), h1)) : mm_EC kM 34 [.ref 0, .int 0, .int (nI s)] ([.inr (3, [.ref 1, .ref 7, .ref 13, .ref 14, .ref 21, .ref 23, .ref 24]), .inr (0, [.ref 2, .ref 3, .ref 4, .ref 5, .ref 6]), x_it 256 pl0, x_it 256 ke0, x_it 4 sz0, x_it 96 se0, x_it 4 gr0, .inr (0, [.ref 8, .ref 9, .ref 10, .ref 11, .ref 12]), x_it 256 pl1, x_it 256 ke1, x_it 4 sz1, x_it 96 se1, x_it 4 gr1, x_it 8 im, .inr (1, [.ref 15, .ref 16, .ref 17, .ref 18, .ref 19, .ref 20, .int ro, .int co, .int mo, .long mi, .int ki]), x_it 2304 ce, x_it 2304 wo, x_it 31 pv, x_it 48 fa, x_it 10 pm, x_it 10 pw, .inr (2, [.ref 22]), x_lg 24 rw, x_it 24 fr, x_it 24 ba] ++ M : mm_H) (some (.int r), h1) := by
  refine ⟨kq_34, rfl, rfl, ?_⟩
  refine mm_E.s rfl rfl rfl (fun _ => rfl) ?_
  refine mm_E.s rfl rfl rfl (fun _ => rfl) ?_
  refine mm_E.iv rfl rfl rfl rfl rfl rfl v_cx0 ?_
  refine mm_E.s rfl rfl rfl (fun _ => rfl) ?_
  refine mm_E.s rfl rfl rfl (fun _ => rfl) ?_
  refine mm_E.s rfl rfl rfl (fun _ => rfl) ?_
  refine mm_E.s rfl rfl rfl (fun _ => rfl) ?_
  refine mm_E.s rfl rfl rfl (fun _ => rfl) ?_
  refine mm_E.s rfl rfl rfl (fun _ => if_neg (nI_nlt (a := s) (b := 1) (by omega) (by omega))) ?_
  refine mm_E.s rfl rfl rfl (fun _ => rfl) ?_
  refine mm_E.s rfl rfl rfl (fun _ => rfl) ?_
  refine mm_E.s rfl rfl rfl (fun _ => if_neg (nI_ge (a := s) (b := 256) (by omega) (by decide))) ?_
  refine mm_E.s rfl rfl rfl (fun _ => rfl) ?_
  refine mm_E.ic rfl rfl rfl rfl rfl (z_bc _) ?_
  refine mm_E.s rfl rfl rfl (fun _ => rfl) ?_
  refine mm_E.s rfl rfl rfl (fun _ => if_pos h4) ?_
  refine mm_E.s rfl rfl rfl (fun _ => rfl) ?_
  refine mm_E.s rfl rfl rfl (fun _ => rfl) ?_
  refine mm_E.iv rfl rfl rfl rfl rfl rfl E1 ?_
  exact mm_E.ret rfl rfl rfl

theorem v_count1 {pl0 ke0 sz0 se0 gr0 pl1 ke1 sz1 se1 gr1 im ce wo pv fa pm pw fr ba : Nat → Int32} {rw : Nat → Int64} {ro co mo : Int32} {mi : Int64} {ki : Int32} {M : mm_H} (k : Int32) : mm_EC kM 36 [.ref 0, .int 1, .int k] ([.inr (3, [.ref 1, .ref 7, .ref 13, .ref 14, .ref 21, .ref 23, .ref 24]), .inr (0, [.ref 2, .ref 3, .ref 4, .ref 5, .ref 6]), x_it 256 pl0, x_it 256 ke0, x_it 4 sz0, x_it 96 se0, x_it 4 gr0, .inr (0, [.ref 8, .ref 9, .ref 10, .ref 11, .ref 12]), x_it 256 pl1, x_it 256 ke1, x_it 4 sz1, x_it 96 se1, x_it 4 gr1, x_it 8 im, .inr (1, [.ref 15, .ref 16, .ref 17, .ref 18, .ref 19, .ref 20, .int ro, .int co, .int mo, .long mi, .int ki]), x_it 2304 ce, x_it 2304 wo, x_it 31 pv, x_it 48 fa, x_it 10 pm, x_it 10 pw, .inr (2, [.ref 22]), x_lg 24 rw, x_it 24 fr, x_it 24 ba] ++ M : mm_H) (some (.int (if ¬ k < 0 ∧ ¬ 4 ≤ k then sz1 k.toNatClampNeg else -1)), ([.inr (3, [.ref 1, .ref 7, .ref 13, .ref 14, .ref 21, .ref 23, .ref 24]), .inr (0, [.ref 2, .ref 3, .ref 4, .ref 5, .ref 6]), x_it 256 pl0, x_it 256 ke0, x_it 4 sz0, x_it 96 se0, x_it 4 gr0, .inr (0, [.ref 8, .ref 9, .ref 10, .ref 11, .ref 12]), x_it 256 pl1, x_it 256 ke1, x_it 4 sz1, x_it 96 se1, x_it 4 gr1, x_it 8 im, .inr (1, [.ref 15, .ref 16, .ref 17, .ref 18, .ref 19, .ref 20, .int ro, .int co, .int mo, .long mi, .int ki]), x_it 2304 ce, x_it 2304 wo, x_it 31 pv, x_it 48 fa, x_it 10 pm, x_it 10 pw, .inr (2, [.ref 22]), x_lg 24 rw, x_it 24 fr, x_it 24 ba] ++ M : mm_H)) := by
  refine ⟨kq_36, rfl, rfl, ?_⟩
  by_cases hk : k < 0 ∨ 4 ≤ k
  · rw [if_neg (fun q => hk.elim q.1 q.2)]
    refine mm_E.s rfl rfl rfl (fun _ => rfl) ?_
    refine mm_E.s rfl rfl rfl (fun _ => rfl) ?_
    refine mm_E.iv rfl rfl rfl rfl rfl rfl v_cx1 ?_
    refine mm_E.s rfl rfl rfl (fun _ => rfl) ?_
    refine mm_E.s rfl rfl rfl (fun _ => rfl) ?_
    refine mm_E.s rfl rfl rfl (fun _ => rfl) ?_
    refine mm_E.s rfl rfl rfl (fun _ => rfl) ?_
    refine mm_E.ic rfl rfl rfl rfl rfl (z_isD0 hk) ?_
    refine mm_E.s rfl rfl rfl (fun _ => rfl) ?_
    refine mm_E.s rfl rfl rfl (fun _ => rfl) ?_
    exact mm_E.ret rfl rfl rfl
  · have k0 : ¬ k < 0 := fun q => hk (Or.inl q)
    have k4 : ¬ 4 ≤ k := fun q => hk (Or.inr q)
    have E1 := v_size1 (pl0 := pl0) (ke0 := ke0) (sz0 := sz0) (se0 := se0) (gr0 := gr0) (pl1 := pl1) (ke1 := ke1) (sz1 := sz1) (se1 := se1) (gr1 := gr1) (im := im) (ce := ce) (wo := wo) (pv := pv) (fa := fa) (pm := pm) (pw := pw) (fr := fr) (ba := ba) (rw := rw) (ro := ro) (co := co) (mo := mo) (mi := mi) (ki := ki) (M := M) k
    rw [if_pos ⟨k0, k4⟩] at E1 ⊢
    refine mm_E.s rfl rfl rfl (fun _ => rfl) ?_
    refine mm_E.s rfl rfl rfl (fun _ => rfl) ?_
    refine mm_E.iv rfl rfl rfl rfl rfl rfl v_cx1 ?_
    refine mm_E.s rfl rfl rfl (fun _ => rfl) ?_
    refine mm_E.s rfl rfl rfl (fun _ => rfl) ?_
    refine mm_E.s rfl rfl rfl (fun _ => rfl) ?_
    refine mm_E.s rfl rfl rfl (fun _ => rfl) ?_
    refine mm_E.ic rfl rfl rfl rfl rfl (z_isD1 k0 k4) ?_
    refine mm_E.s rfl rfl rfl (fun _ => rfl) ?_
    refine mm_E.s rfl rfl rfl (fun _ => rfl) ?_
    refine mm_E.s rfl rfl rfl (fun _ => rfl) ?_
    refine mm_E.iv rfl rfl rfl rfl rfl rfl E1 ?_
    exact mm_E.ret rfl rfl rfl

theorem v_simB1 {pl0 ke0 sz0 se0 gr0 pl1 ke1 sz1 se1 gr1 im ce wo pv fa pm pw fr ba : Nat → Int32} {rw : Nat → Int64} {ro co mo : Int32} {mi : Int64} {ki : Int32} {M : mm_H} {k i : Int32} (hb : i < 0 ∨ ¬ i < (if ¬ k < 0 ∧ ¬ 4 ≤ k then sz1 (k).toNatClampNeg else 0)) : mm_EC kM 37 [.ref 0, .int 1, .int k, .int i] ([.inr (3, [.ref 1, .ref 7, .ref 13, .ref 14, .ref 21, .ref 23, .ref 24]), .inr (0, [.ref 2, .ref 3, .ref 4, .ref 5, .ref 6]), x_it 256 pl0, x_it 256 ke0, x_it 4 sz0, x_it 96 se0, x_it 4 gr0, .inr (0, [.ref 8, .ref 9, .ref 10, .ref 11, .ref 12]), x_it 256 pl1, x_it 256 ke1, x_it 4 sz1, x_it 96 se1, x_it 4 gr1, x_it 8 im, .inr (1, [.ref 15, .ref 16, .ref 17, .ref 18, .ref 19, .ref 20, .int ro, .int co, .int mo, .long mi, .int ki]), x_it 2304 ce, x_it 2304 wo, x_it 31 pv, x_it 48 fa, x_it 10 pm, x_it 10 pw, .inr (2, [.ref 22]), x_lg 24 rw, x_it 24 fr, x_it 24 ba] ++ M : mm_H) (some (.int (-1)), ([.inr (3, [.ref 1, .ref 7, .ref 13, .ref 14, .ref 21, .ref 23, .ref 24]), .inr (0, [.ref 2, .ref 3, .ref 4, .ref 5, .ref 6]), x_it 256 pl0, x_it 256 ke0, x_it 4 sz0, x_it 96 se0, x_it 4 gr0, .inr (0, [.ref 8, .ref 9, .ref 10, .ref 11, .ref 12]), x_it 256 pl1, x_it 256 ke1, x_it 4 sz1, x_it 96 se1, x_it 4 gr1, x_it 8 im, .inr (1, [.ref 15, .ref 16, .ref 17, .ref 18, .ref 19, .ref 20, .int ro, .int co, .int mo, .long mi, .int ki]), x_it 2304 ce, x_it 2304 wo, x_it 31 pv, x_it 48 fa, x_it 10 pm, x_it 10 pw, .inr (2, [.ref 22]), x_lg 24 rw, x_it 24 fr, x_it 24 ba] ++ M : mm_H)) := by
  refine ⟨kq_37, rfl, rfl, ?_⟩
  by_cases h0 : i < 0
  · skip
    refine mm_E.s rfl rfl rfl (fun _ => rfl) ?_
    refine mm_E.s rfl rfl rfl (fun _ => rfl) ?_
    refine mm_E.iv rfl rfl rfl rfl rfl rfl v_cx1 ?_
    refine mm_E.s rfl rfl rfl (fun _ => rfl) ?_
    refine mm_E.s rfl rfl rfl (fun _ => rfl) ?_
    refine mm_E.s rfl rfl rfl (fun _ => rfl) ?_
    refine mm_E.s rfl rfl rfl (fun _ => rfl) ?_
    refine mm_E.s rfl rfl rfl (fun _ => if_pos h0) ?_
    refine mm_E.s rfl rfl rfl (fun _ => rfl) ?_
    exact mm_E.ret rfl rfl rfl
  · have h1 := hb.resolve_left h0
    refine mm_E.s rfl rfl rfl (fun _ => rfl) ?_
    refine mm_E.s rfl rfl rfl (fun _ => rfl) ?_
    refine mm_E.iv rfl rfl rfl rfl rfl rfl v_cx1 ?_
    refine mm_E.s rfl rfl rfl (fun _ => rfl) ?_
    refine mm_E.s rfl rfl rfl (fun _ => rfl) ?_
    refine mm_E.s rfl rfl rfl (fun _ => rfl) ?_
    refine mm_E.s rfl rfl rfl (fun _ => rfl) ?_
    refine mm_E.s rfl rfl rfl (fun _ => if_neg h0) ?_
    refine mm_E.s rfl rfl rfl (fun _ => rfl) ?_
    refine mm_E.s rfl rfl rfl (fun _ => rfl) ?_
    refine mm_E.s rfl rfl rfl (fun _ => rfl) ?_
    refine mm_E.iv rfl rfl rfl rfl rfl rfl (v_size1 k) ?_
    refine mm_E.s rfl rfl rfl (fun _ => if_neg h1) ?_
    refine mm_E.s rfl rfl rfl (fun _ => rfl) ?_
    exact mm_E.ret rfl rfl rfl
theorem v_simG1 {pl0 ke0 sz0 se0 gr0 pl1 ke1 sz1 se1 gr1 im ce wo pv fa pm pw fr ba : Nat → Int32} {rw : Nat → Int64} {ro co mo : Int32} {mi : Int64} {ki : Int32} {M : mm_H} {a j m : Nat} (ha : a < 4) (hm : sz1 a = nI m) (hm4 : m ≤ 24) (hj : j < m) : mm_EC kM 37 [.ref 0, .int 1, .int (nI a), .int (nI j)] ([.inr (3, [.ref 1, .ref 7, .ref 13, .ref 14, .ref 21, .ref 23, .ref 24]), .inr (0, [.ref 2, .ref 3, .ref 4, .ref 5, .ref 6]), x_it 256 pl0, x_it 256 ke0, x_it 4 sz0, x_it 96 se0, x_it 4 gr0, .inr (0, [.ref 8, .ref 9, .ref 10, .ref 11, .ref 12]), x_it 256 pl1, x_it 256 ke1, x_it 4 sz1, x_it 96 se1, x_it 4 gr1, x_it 8 im, .inr (1, [.ref 15, .ref 16, .ref 17, .ref 18, .ref 19, .ref 20, .int ro, .int co, .int mo, .long mi, .int ki]), x_it 2304 ce, x_it 2304 wo, x_it 31 pv, x_it 48 fa, x_it 10 pm, x_it 10 pw, .inr (2, [.ref 22]), x_lg 24 rw, x_it 24 fr, x_it 24 ba] ++ M : mm_H) (some (.int (se1 (a * 24 + j))), ([.inr (3, [.ref 1, .ref 7, .ref 13, .ref 14, .ref 21, .ref 23, .ref 24]), .inr (0, [.ref 2, .ref 3, .ref 4, .ref 5, .ref 6]), x_it 256 pl0, x_it 256 ke0, x_it 4 sz0, x_it 96 se0, x_it 4 gr0, .inr (0, [.ref 8, .ref 9, .ref 10, .ref 11, .ref 12]), x_it 256 pl1, x_it 256 ke1, x_it 4 sz1, x_it 96 se1, x_it 4 gr1, x_it 8 im, .inr (1, [.ref 15, .ref 16, .ref 17, .ref 18, .ref 19, .ref 20, .int ro, .int co, .int mo, .long mi, .int ki]), x_it 2304 ce, x_it 2304 wo, x_it 31 pv, x_it 48 fa, x_it 10 pm, x_it 10 pw, .inr (2, [.ref 22]), x_lg 24 rw, x_it 24 fr, x_it 24 ba] ++ M : mm_H)) := by
  have h0 : ¬ nI j < 0 := nI_pos (by omega)
  have h1 : nI j < (if ¬ nI a < 0 ∧ ¬ 4 ≤ nI a then sz1 (nI a).toNatClampNeg else 0) := by
    rw [if_pos ⟨nI_pos (by omega), nI_ge (a := a) (b := 4) ha (by decide)⟩, mm_cl (by omega), hm]
    exact nI_lt hj (by omega)
  refine ⟨kq_37, rfl, rfl, ?_⟩
  refine mm_E.s rfl rfl rfl (fun _ => rfl) ?_
  refine mm_E.s rfl rfl rfl (fun _ => rfl) ?_
  refine mm_E.iv rfl rfl rfl rfl rfl rfl v_cx1 ?_
  refine mm_E.s rfl rfl rfl (fun _ => rfl) ?_
  refine mm_E.s rfl rfl rfl (fun _ => rfl) ?_
  refine mm_E.s rfl rfl rfl (fun _ => rfl) ?_
  refine mm_E.s rfl rfl rfl (fun _ => rfl) ?_
  refine mm_E.s rfl rfl rfl (fun _ => if_neg h0) ?_
  refine mm_E.s rfl rfl rfl (fun _ => rfl) ?_
  refine mm_E.s rfl rfl rfl (fun _ => rfl) ?_
  refine mm_E.s rfl rfl rfl (fun _ => rfl) ?_
  refine mm_E.iv rfl rfl rfl rfl rfl rfl (v_size1 (nI a)) ?_
  refine mm_E.s rfl rfl rfl (fun _ => if_pos h1) ?_
  refine mm_E.s rfl rfl rfl (fun _ => rfl) ?_
  refine mm_E.s rfl rfl rfl (fun _ => rfl) ?_
  refine mm_E.s rfl rfl rfl (fun _ => rfl) ?_
  refine mm_E.iv rfl rfl rfl rfl rfl rfl (v_setAt1 (by omega)) ?_
  exact mm_E.ret rfl rfl rfl

theorem v_incB1 {pl0 ke0 sz0 se0 gr0 pl1 ke1 sz1 se1 gr1 im ce wo pv fa pm pw fr ba : Nat → Int32} {rw : Nat → Int64} {ro co mo : Int32} {mi : Int64} {ki : Int32} {M : mm_H} {k i j : Int32} (hb : i < 0 ∨ (if ¬ (k - 1) < 0 ∧ ¬ 4 ≤ (k - 1) then sz1 ((k - 1)).toNatClampNeg else 0) ≤ i ∨ j < 0 ∨ ¬ j < (if ¬ k < 0 ∧ ¬ 4 ≤ k then sz1 (k).toNatClampNeg else 0)) : mm_EC kM 38 [.ref 0, .int 1, .int k, .int i, .int j] ([.inr (3, [.ref 1, .ref 7, .ref 13, .ref 14, .ref 21, .ref 23, .ref 24]), .inr (0, [.ref 2, .ref 3, .ref 4, .ref 5, .ref 6]), x_it 256 pl0, x_it 256 ke0, x_it 4 sz0, x_it 96 se0, x_it 4 gr0, .inr (0, [.ref 8, .ref 9, .ref 10, .ref 11, .ref 12]), x_it 256 pl1, x_it 256 ke1, x_it 4 sz1, x_it 96 se1, x_it 4 gr1, x_it 8 im, .inr (1, [.ref 15, .ref 16, .ref 17, .ref 18, .ref 19, .ref 20, .int ro, .int co, .int mo, .long mi, .int ki]), x_it 2304 ce, x_it 2304 wo, x_it 31 pv, x_it 48 fa, x_it 10 pm, x_it 10 pw, .inr (2, [.ref 22]), x_lg 24 rw, x_it 24 fr, x_it 24 ba] ++ M : mm_H) (some (.int 0), ([.inr (3, [.ref 1, .ref 7, .ref 13, .ref 14, .ref 21, .ref 23, .ref 24]), .inr (0, [.ref 2, .ref 3, .ref 4, .ref 5, .ref 6]), x_it 256 pl0, x_it 256 ke0, x_it 4 sz0, x_it 96 se0, x_it 4 gr0, .inr (0, [.ref 8, .ref 9, .ref 10, .ref 11, .ref 12]), x_it 256 pl1, x_it 256 ke1, x_it 4 sz1, x_it 96 se1, x_it 4 gr1, x_it 8 im, .inr (1, [.ref 15, .ref 16, .ref 17, .ref 18, .ref 19, .ref 20, .int ro, .int co, .int mo, .long mi, .int ki]), x_it 2304 ce, x_it 2304 wo, x_it 31 pv, x_it 48 fa, x_it 10 pm, x_it 10 pw, .inr (2, [.ref 22]), x_lg 24 rw, x_it 24 fr, x_it 24 ba] ++ M : mm_H)) := by
  refine ⟨kq_38, rfl, rfl, ?_⟩
  by_cases h0 : i < 0
  · skip
    refine mm_E.s rfl rfl rfl (fun _ => rfl) ?_
    refine mm_E.s rfl rfl rfl (fun _ => rfl) ?_
    refine mm_E.iv rfl rfl rfl rfl rfl rfl v_cx1 ?_
    refine mm_E.s rfl rfl rfl (fun _ => rfl) ?_
    refine mm_E.s rfl rfl rfl (fun _ => rfl) ?_
    refine mm_E.s rfl rfl rfl (fun _ => rfl) ?_
    refine mm_E.s rfl rfl rfl (fun _ => rfl) ?_
    refine mm_E.s rfl rfl rfl (fun _ => if_pos h0) ?_
    refine mm_E.s rfl rfl rfl (fun _ => rfl) ?_
    exact mm_E.ret rfl rfl rfl
  · by_cases h1 : (if ¬ (k - 1) < 0 ∧ ¬ 4 ≤ (k - 1) then sz1 ((k - 1)).toNatClampNeg else 0) ≤ i
    · skip
      refine mm_E.s rfl rfl rfl (fun _ => rfl) ?_
      refine mm_E.s rfl rfl rfl (fun _ => rfl) ?_
      refine mm_E.iv rfl rfl rfl rfl rfl rfl v_cx1 ?_
      refine mm_E.s rfl rfl rfl (fun _ => rfl) ?_
      refine mm_E.s rfl rfl rfl (fun _ => rfl) ?_
      refine mm_E.s rfl rfl rfl (fun _ => rfl) ?_
      refine mm_E.s rfl rfl rfl (fun _ => rfl) ?_
      refine mm_E.s rfl rfl rfl (fun _ => if_neg h0) ?_
      refine mm_E.s rfl rfl rfl (fun _ => rfl) ?_
      refine mm_E.s rfl rfl rfl (fun _ => rfl) ?_
      refine mm_E.s rfl rfl rfl (fun _ => rfl) ?_
      refine mm_E.s rfl rfl rfl (fun _ => rfl) ?_
      refine mm_E.s rfl rfl rfl (fun _ => rfl) ?_
      refine mm_E.iv rfl rfl rfl rfl rfl rfl (v_size1 (k - 1)) ?_
      refine mm_E.s rfl rfl rfl (fun _ => if_pos h1) ?_
      refine mm_E.s rfl rfl rfl (fun _ => rfl) ?_
      exact mm_E.ret rfl rfl rfl
    · by_cases h2 : j < 0
      · skip
        refine mm_E.s rfl rfl rfl (fun _ => rfl) ?_
        refine mm_E.s rfl rfl rfl (fun _ => rfl) ?_
        refine mm_E.iv rfl rfl rfl rfl rfl rfl v_cx1 ?_
        refine mm_E.s rfl rfl rfl (fun _ => rfl) ?_
        refine mm_E.s rfl rfl rfl (fun _ => rfl) ?_
        refine mm_E.s rfl rfl rfl (fun _ => rfl) ?_
        refine mm_E.s rfl rfl rfl (fun _ => rfl) ?_
        refine mm_E.s rfl rfl rfl (fun _ => if_neg h0) ?_
        refine mm_E.s rfl rfl rfl (fun _ => rfl) ?_
        refine mm_E.s rfl rfl rfl (fun _ => rfl) ?_
        refine mm_E.s rfl rfl rfl (fun _ => rfl) ?_
        refine mm_E.s rfl rfl rfl (fun _ => rfl) ?_
        refine mm_E.s rfl rfl rfl (fun _ => rfl) ?_
        refine mm_E.iv rfl rfl rfl rfl rfl rfl (v_size1 (k - 1)) ?_
        refine mm_E.s rfl rfl rfl (fun _ => if_neg h1) ?_
        refine mm_E.s rfl rfl rfl (fun _ => rfl) ?_
        refine mm_E.s rfl rfl rfl (fun _ => if_pos h2) ?_
        refine mm_E.s rfl rfl rfl (fun _ => rfl) ?_
        exact mm_E.ret rfl rfl rfl
      · have h3 := ((hb.resolve_left h0).resolve_left h1).resolve_left h2
        refine mm_E.s rfl rfl rfl (fun _ => rfl) ?_
        refine mm_E.s rfl rfl rfl (fun _ => rfl) ?_
        refine mm_E.iv rfl rfl rfl rfl rfl rfl v_cx1 ?_
        refine mm_E.s rfl rfl rfl (fun _ => rfl) ?_
        refine mm_E.s rfl rfl rfl (fun _ => rfl) ?_
        refine mm_E.s rfl rfl rfl (fun _ => rfl) ?_
        refine mm_E.s rfl rfl rfl (fun _ => rfl) ?_
        refine mm_E.s rfl rfl rfl (fun _ => if_neg h0) ?_
        refine mm_E.s rfl rfl rfl (fun _ => rfl) ?_
        refine mm_E.s rfl rfl rfl (fun _ => rfl) ?_
        refine mm_E.s rfl rfl rfl (fun _ => rfl) ?_
        refine mm_E.s rfl rfl rfl (fun _ => rfl) ?_
        refine mm_E.s rfl rfl rfl (fun _ => rfl) ?_
        refine mm_E.iv rfl rfl rfl rfl rfl rfl (v_size1 (k - 1)) ?_
        refine mm_E.s rfl rfl rfl (fun _ => if_neg h1) ?_
        refine mm_E.s rfl rfl rfl (fun _ => rfl) ?_
        refine mm_E.s rfl rfl rfl (fun _ => if_neg h2) ?_
        refine mm_E.s rfl rfl rfl (fun _ => rfl) ?_
        refine mm_E.s rfl rfl rfl (fun _ => rfl) ?_
        refine mm_E.s rfl rfl rfl (fun _ => rfl) ?_
        refine mm_E.iv rfl rfl rfl rfl rfl rfl (v_size1 k) ?_
        refine mm_E.s rfl rfl rfl (fun _ => if_neg h3) ?_
        refine mm_E.s rfl rfl rfl (fun _ => rfl) ?_
        exact mm_E.ret rfl rfl rfl
theorem v_incG1 {pl0 ke0 sz0 se0 gr0 pl1 ke1 sz1 se1 gr1 im ce wo pv fa pm pw fr ba : Nat → Int32} {rw : Nat → Int64} {ro co mo : Int32} {mi : Int64} {ki : Int32} {M : mm_H} {a i j m1 m2 : Nat} (h1a : 1 ≤ a) (ha : a < 4) (hm1 : sz1 (a - 1) = nI m1) (hm14 : m1 ≤ 24) (hi : i < m1) (hm2 : sz1 a = nI m2) (hm24 : m2 ≤ 24) (hj : j < m2) : mm_EC kM 38 [.ref 0, .int 1, .int (nI a), .int (nI i), .int (nI j)] ([.inr (3, [.ref 1, .ref 7, .ref 13, .ref 14, .ref 21, .ref 23, .ref 24]), .inr (0, [.ref 2, .ref 3, .ref 4, .ref 5, .ref 6]), x_it 256 pl0, x_it 256 ke0, x_it 4 sz0, x_it 96 se0, x_it 4 gr0, .inr (0, [.ref 8, .ref 9, .ref 10, .ref 11, .ref 12]), x_it 256 pl1, x_it 256 ke1, x_it 4 sz1, x_it 96 se1, x_it 4 gr1, x_it 8 im, .inr (1, [.ref 15, .ref 16, .ref 17, .ref 18, .ref 19, .ref 20, .int ro, .int co, .int mo, .long mi, .int ki]), x_it 2304 ce, x_it 2304 wo, x_it 31 pv, x_it 48 fa, x_it 10 pm, x_it 10 pw, .inr (2, [.ref 22]), x_lg 24 rw, x_it 24 fr, x_it 24 ba] ++ M : mm_H) (some (.int (x_sf (se1 ((a - 1) * 24 + i)) (se1 (a * 24 + j)))), ([.inr (3, [.ref 1, .ref 7, .ref 13, .ref 14, .ref 21, .ref 23, .ref 24]), .inr (0, [.ref 2, .ref 3, .ref 4, .ref 5, .ref 6]), x_it 256 pl0, x_it 256 ke0, x_it 4 sz0, x_it 96 se0, x_it 4 gr0, .inr (0, [.ref 8, .ref 9, .ref 10, .ref 11, .ref 12]), x_it 256 pl1, x_it 256 ke1, x_it 4 sz1, x_it 96 se1, x_it 4 gr1, x_it 8 im, .inr (1, [.ref 15, .ref 16, .ref 17, .ref 18, .ref 19, .ref 20, .int ro, .int co, .int mo, .long mi, .int ki]), x_it 2304 ce, x_it 2304 wo, x_it 31 pv, x_it 48 fa, x_it 10 pm, x_it 10 pw, .inr (2, [.ref 22]), x_lg 24 rw, x_it 24 fr, x_it 24 ba] ++ M : mm_H)) := by
  have h0 : ¬ nI i < 0 := nI_pos (by omega)
  have h2 : ¬ nI j < 0 := nI_pos (by omega)
  have ea : nI a - 1 = nI (a - 1) := x_n1 h1a
  have h1 : ¬ (if ¬ (nI a - 1) < 0 ∧ ¬ 4 ≤ (nI a - 1) then sz1 ((nI a - 1)).toNatClampNeg else 0) ≤ nI i := by
    rw [ea, if_pos ⟨nI_pos (by omega), nI_ge (a := a - 1) (b := 4) (by omega) (by decide)⟩, mm_cl (by omega), hm1]
    exact nI_ge hi (by omega)
  have h3 : nI j < (if ¬ nI a < 0 ∧ ¬ 4 ≤ nI a then sz1 (nI a).toNatClampNeg else 0) := by
    rw [if_pos ⟨nI_pos (by omega), nI_ge (a := a) (b := 4) ha (by decide)⟩, mm_cl (by omega), hm2]
    exact nI_lt hj (by omega)
  refine ⟨kq_38, rfl, rfl, ?_⟩
  refine mm_E.s rfl rfl rfl (fun _ => rfl) ?_
  refine mm_E.s rfl rfl rfl (fun _ => rfl) ?_
  refine mm_E.iv rfl rfl rfl rfl rfl rfl v_cx1 ?_
  refine mm_E.s rfl rfl rfl (fun _ => rfl) ?_
  refine mm_E.s rfl rfl rfl (fun _ => rfl) ?_
  refine mm_E.s rfl rfl rfl (fun _ => rfl) ?_
  refine mm_E.s rfl rfl rfl (fun _ => rfl) ?_
  refine mm_E.s rfl rfl rfl (fun _ => if_neg h0) ?_
  refine mm_E.s rfl rfl rfl (fun _ => rfl) ?_
  refine mm_E.s rfl rfl rfl (fun _ => rfl) ?_
  refine mm_E.s rfl rfl rfl (fun _ => rfl) ?_
  refine mm_E.s rfl rfl rfl (fun _ => rfl) ?_
  refine mm_E.s rfl rfl rfl (fun _ => rfl) ?_
  refine mm_E.iv rfl rfl rfl rfl rfl rfl (v_size1 (nI a - 1)) ?_
  refine mm_E.s rfl rfl rfl (fun _ => if_neg h1) ?_
  refine mm_E.s rfl rfl rfl (fun _ => rfl) ?_
  refine mm_E.s rfl rfl rfl (fun _ => if_neg h2) ?_
  refine mm_E.s rfl rfl rfl (fun _ => rfl) ?_
  refine mm_E.s rfl rfl rfl (fun _ => rfl) ?_
  refine mm_E.s rfl rfl rfl (fun _ => rfl) ?_
  refine mm_E.iv rfl rfl rfl rfl rfl rfl (v_size1 (nI a)) ?_
  refine mm_E.s rfl rfl rfl (fun _ => if_pos h3) ?_
  refine mm_E.s rfl rfl rfl (fun _ => rfl) ?_
  refine mm_E.s rfl rfl rfl (fun _ => rfl) ?_
  refine mm_E.s rfl rfl rfl (fun _ => rfl) ?_
  refine mm_E.s rfl rfl rfl (fun _ => rfl) ?_
  refine mm_E.ti (nI (a - 1)) ea ?_
  refine mm_E.s rfl rfl rfl (fun _ => rfl) ?_
  refine mm_E.iv rfl rfl rfl rfl rfl rfl (v_setAt1 (by omega)) ?_
  refine mm_E.s rfl rfl rfl (fun _ => rfl) ?_
  refine mm_E.s rfl rfl rfl (fun _ => rfl) ?_
  refine mm_E.s rfl rfl rfl (fun _ => rfl) ?_
  refine mm_E.iv rfl rfl rfl rfl rfl rfl (v_setAt1 (by omega)) ?_
  refine mm_E.ic rfl rfl rfl rfl rfl (v_sf _ _) ?_
  exact mm_E.ret rfl rfl rfl

theorem v_euler1 {pl0 ke0 sz0 se0 gr0 pl1 ke1 sz1 se1 gr1 im ce wo pv fa pm pw fr ba : Nat → Int32} {rw : Nat → Int64} {ro co mo : Int32} {mi : Int64} {ki : Int32} {M : mm_H} : mm_EC kM 39 [.ref 0, .int 1] ([.inr (3, [.ref 1, .ref 7, .ref 13, .ref 14, .ref 21, .ref 23, .ref 24]), .inr (0, [.ref 2, .ref 3, .ref 4, .ref 5, .ref 6]), x_it 256 pl0, x_it 256 ke0, x_it 4 sz0, x_it 96 se0, x_it 4 gr0, .inr (0, [.ref 8, .ref 9, .ref 10, .ref 11, .ref 12]), x_it 256 pl1, x_it 256 ke1, x_it 4 sz1, x_it 96 se1, x_it 4 gr1, x_it 8 im, .inr (1, [.ref 15, .ref 16, .ref 17, .ref 18, .ref 19, .ref 20, .int ro, .int co, .int mo, .long mi, .int ki]), x_it 2304 ce, x_it 2304 wo, x_it 31 pv, x_it 48 fa, x_it 10 pm, x_it 10 pw, .inr (2, [.ref 22]), x_lg 24 rw, x_it 24 fr, x_it 24 ba] ++ M : mm_H) (some (.int (sz1 0 - sz1 1 + sz1 2 - sz1 3)), ([.inr (3, [.ref 1, .ref 7, .ref 13, .ref 14, .ref 21, .ref 23, .ref 24]), .inr (0, [.ref 2, .ref 3, .ref 4, .ref 5, .ref 6]), x_it 256 pl0, x_it 256 ke0, x_it 4 sz0, x_it 96 se0, x_it 4 gr0, .inr (0, [.ref 8, .ref 9, .ref 10, .ref 11, .ref 12]), x_it 256 pl1, x_it 256 ke1, x_it 4 sz1, x_it 96 se1, x_it 4 gr1, x_it 8 im, .inr (1, [.ref 15, .ref 16, .ref 17, .ref 18, .ref 19, .ref 20, .int ro, .int co, .int mo, .long mi, .int ki]), x_it 2304 ce, x_it 2304 wo, x_it 31 pv, x_it 48 fa, x_it 10 pm, x_it 10 pw, .inr (2, [.ref 22]), x_lg 24 rw, x_it 24 fr, x_it 24 ba] ++ M : mm_H)) := by
  refine ⟨kq_39, rfl, rfl, ?_⟩
  refine mm_E.s rfl rfl rfl (fun _ => rfl) ?_
  refine mm_E.s rfl rfl rfl (fun _ => rfl) ?_
  refine mm_E.iv rfl rfl rfl rfl rfl rfl v_cx1 ?_
  refine mm_E.s rfl rfl rfl (fun _ => rfl) ?_
  refine mm_E.s rfl rfl rfl (fun _ => rfl) ?_
  refine mm_E.s rfl rfl rfl (fun _ => rfl) ?_
  refine mm_E.s rfl rfl rfl (fun _ => rfl) ?_
  refine mm_E.s rfl rfl rfl (fun _ => rfl) ?_
  refine mm_E.iv rfl rfl rfl rfl rfl rfl (v_size1 0) ?_
  refine mm_E.s rfl rfl rfl (fun _ => rfl) ?_
  refine mm_E.s rfl rfl rfl (fun _ => rfl) ?_
  refine mm_E.iv rfl rfl rfl rfl rfl rfl (v_size1 1) ?_
  refine mm_E.s rfl rfl rfl (fun _ => rfl) ?_
  refine mm_E.s rfl rfl rfl (fun _ => rfl) ?_
  refine mm_E.s rfl rfl rfl (fun _ => rfl) ?_
  refine mm_E.iv rfl rfl rfl rfl rfl rfl (v_size1 2) ?_
  refine mm_E.s rfl rfl rfl (fun _ => rfl) ?_
  refine mm_E.s rfl rfl rfl (fun _ => rfl) ?_
  refine mm_E.s rfl rfl rfl (fun _ => rfl) ?_
  refine mm_E.iv rfl rfl rfl rfl rfl rfl (v_size1 3) ?_
  refine mm_E.s rfl rfl rfl (fun _ => rfl) ?_
  exact mm_E.ret rfl rfl rfl

theorem v_get1 {pl0 ke0 sz0 se0 gr0 pl1 ke1 sz1 se1 gr1 im ce wo pv fa pm pw fr ba : Nat → Int32} {rw : Nat → Int64} {ro co mo : Int32} {mi : Int64} {ki : Int32} {M : mm_H} (s : Int32) : mm_EC kM 44 [.ref 0, .int 1, .int s] ([.inr (3, [.ref 1, .ref 7, .ref 13, .ref 14, .ref 21, .ref 23, .ref 24]), .inr (0, [.ref 2, .ref 3, .ref 4, .ref 5, .ref 6]), x_it 256 pl0, x_it 256 ke0, x_it 4 sz0, x_it 96 se0, x_it 4 gr0, .inr (0, [.ref 8, .ref 9, .ref 10, .ref 11, .ref 12]), x_it 256 pl1, x_it 256 ke1, x_it 4 sz1, x_it 96 se1, x_it 4 gr1, x_it 8 im, .inr (1, [.ref 15, .ref 16, .ref 17, .ref 18, .ref 19, .ref 20, .int ro, .int co, .int mo, .long mi, .int ki]), x_it 2304 ce, x_it 2304 wo, x_it 31 pv, x_it 48 fa, x_it 10 pm, x_it 10 pw, .inr (2, [.ref 22]), x_lg 24 rw, x_it 24 fr, x_it 24 ba] ++ M : mm_H) (some (.int (if ¬ s ≤ 0 ∧ ¬ 256 ≤ s ∧ ¬ pl1 s.toNatClampNeg = -1 then ke1 s.toNatClampNeg else 0)), ([.inr (3, [.ref 1, .ref 7, .ref 13, .ref 14, .ref 21, .ref 23, .ref 24]), .inr (0, [.ref 2, .ref 3, .ref 4, .ref 5, .ref 6]), x_it 256 pl0, x_it 256 ke0, x_it 4 sz0, x_it 96 se0, x_it 4 gr0, .inr (0, [.ref 8, .ref 9, .ref 10, .ref 11, .ref 12]), x_it 256 pl1, x_it 256 ke1, x_it 4 sz1, x_it 96 se1, x_it 4 gr1, x_it 8 im, .inr (1, [.ref 15, .ref 16, .ref 17, .ref 18, .ref 19, .ref 20, .int ro, .int co, .int mo, .long mi, .int ki]), x_it 2304 ce, x_it 2304 wo, x_it 31 pv, x_it 48 fa, x_it 10 pm, x_it 10 pw, .inr (2, [.ref 22]), x_lg 24 rw, x_it 24 fr, x_it 24 ba] ++ M : mm_H)) := by
  have E1 := v_holds1 (pl0 := pl0) (ke0 := ke0) (sz0 := sz0) (se0 := se0) (gr0 := gr0) (pl1 := pl1) (ke1 := ke1) (sz1 := sz1) (se1 := se1) (gr1 := gr1) (im := im) (ce := ce) (wo := wo) (pv := pv) (fa := fa) (pm := pm) (pw := pw) (fr := fr) (ba := ba) (rw := rw) (ro := ro) (co := co) (mo := mo) (mi := mi) (ki := ki) (M := M) s
  refine ⟨kq_44, rfl, rfl, ?_⟩
  by_cases hh : ¬ s ≤ 0 ∧ ¬ 256 ≤ s ∧ ¬ pl1 s.toNatClampNeg = -1
  · rw [if_pos hh] at E1 ⊢
    obtain ⟨h1, h2, h3⟩ := hh
    obtain ⟨j, hj, rfl⟩ := x_255 h1 h2
    rw [mm_cl (by omega)]
    refine mm_E.s rfl rfl rfl (fun _ => rfl) ?_
    refine mm_E.s rfl rfl rfl (fun _ => rfl) ?_
    refine mm_E.iv rfl rfl rfl rfl rfl rfl v_cx1 ?_
    refine mm_E.s rfl rfl rfl (fun _ => rfl) ?_
    refine mm_E.s rfl rfl rfl (fun _ => rfl) ?_
    refine mm_E.s rfl rfl rfl (fun _ => rfl) ?_
    refine mm_E.s rfl rfl rfl (fun _ => rfl) ?_
    refine mm_E.s rfl rfl rfl (fun _ => rfl) ?_
    refine mm_E.iv rfl rfl rfl rfl rfl rfl E1 ?_
    refine mm_E.s rfl rfl rfl (fun _ => rfl) ?_
    refine mm_E.s rfl rfl rfl (fun _ => rfl) ?_
    refine mm_E.s rfl rfl rfl (fun _ => rfl) ?_
    refine mm_E.iv rfl rfl rfl rfl rfl rfl (v_kept1 hj) ?_
    exact mm_E.ret rfl rfl rfl
  · rw [if_neg hh] at E1 ⊢
    refine mm_E.s rfl rfl rfl (fun _ => rfl) ?_
    refine mm_E.s rfl rfl rfl (fun _ => rfl) ?_
    refine mm_E.iv rfl rfl rfl rfl rfl rfl v_cx1 ?_
    refine mm_E.s rfl rfl rfl (fun _ => rfl) ?_
    refine mm_E.s rfl rfl rfl (fun _ => rfl) ?_
    refine mm_E.s rfl rfl rfl (fun _ => rfl) ?_
    refine mm_E.s rfl rfl rfl (fun _ => rfl) ?_
    refine mm_E.s rfl rfl rfl (fun _ => rfl) ?_
    refine mm_E.iv rfl rfl rfl rfl rfl rfl E1 ?_
    refine mm_E.s rfl rfl rfl (fun _ => rfl) ?_
    refine mm_E.s rfl rfl rfl (fun _ => rfl) ?_
    exact mm_E.ret rfl rfl rfl
theorem v_put11 {pl0 ke0 sz0 se0 gr0 pl1 ke1 sz1 se1 gr1 im ce wo pv fa pm pw fr ba : Nat → Int32} {rw : Nat → Int64} {ro co mo : Int32} {mi : Int64} {ki : Int32} {M : mm_H} {s x : Int32} (hh : ¬ s ≤ 0 ∧ ¬ 256 ≤ s ∧ ¬ pl1 s.toNatClampNeg = -1) (x9 : ¬ x < -9) (y9 : x ≤ 9) : mm_EC kM 43 [.ref 0, .int 1, .int s, .int x] ([.inr (3, [.ref 1, .ref 7, .ref 13, .ref 14, .ref 21, .ref 23, .ref 24]), .inr (0, [.ref 2, .ref 3, .ref 4, .ref 5, .ref 6]), x_it 256 pl0, x_it 256 ke0, x_it 4 sz0, x_it 96 se0, x_it 4 gr0, .inr (0, [.ref 8, .ref 9, .ref 10, .ref 11, .ref 12]), x_it 256 pl1, x_it 256 ke1, x_it 4 sz1, x_it 96 se1, x_it 4 gr1, x_it 8 im, .inr (1, [.ref 15, .ref 16, .ref 17, .ref 18, .ref 19, .ref 20, .int ro, .int co, .int mo, .long mi, .int ki]), x_it 2304 ce, x_it 2304 wo, x_it 31 pv, x_it 48 fa, x_it 10 pm, x_it 10 pw, .inr (2, [.ref 22]), x_lg 24 rw, x_it 24 fr, x_it 24 ba] ++ M : mm_H) (some (.int 1), ([.inr (3, [.ref 1, .ref 7, .ref 13, .ref 14, .ref 21, .ref 23, .ref 24]), .inr (0, [.ref 2, .ref 3, .ref 4, .ref 5, .ref 6]), x_it 256 pl0, x_it 256 ke0, x_it 4 sz0, x_it 96 se0, x_it 4 gr0, .inr (0, [.ref 8, .ref 9, .ref 10, .ref 11, .ref 12]), x_it 256 pl1, x_it 256 (upd ke1 s.toNatClampNeg x), x_it 4 sz1, x_it 96 se1, x_it 4 gr1, x_it 8 im, .inr (1, [.ref 15, .ref 16, .ref 17, .ref 18, .ref 19, .ref 20, .int ro, .int co, .int mo, .long mi, .int ki]), x_it 2304 ce, x_it 2304 wo, x_it 31 pv, x_it 48 fa, x_it 10 pm, x_it 10 pw, .inr (2, [.ref 22]), x_lg 24 rw, x_it 24 fr, x_it 24 ba] ++ M : mm_H)) := by
  have E1 := v_holds1 (pl0 := pl0) (ke0 := ke0) (sz0 := sz0) (se0 := se0) (gr0 := gr0) (pl1 := pl1) (ke1 := ke1) (sz1 := sz1) (se1 := se1) (gr1 := gr1) (im := im) (ce := ce) (wo := wo) (pv := pv) (fa := fa) (pm := pm) (pw := pw) (fr := fr) (ba := ba) (rw := rw) (ro := ro) (co := co) (mo := mo) (mi := mi) (ki := ki) (M := M) s
  rw [if_pos hh] at E1
  obtain ⟨h1, h2, h3⟩ := hh
  obtain ⟨j, hj, rfl⟩ := x_255 h1 h2
  rw [mm_cl (by omega)]
  refine ⟨kq_43, rfl, rfl, ?_⟩
  refine mm_E.s rfl rfl rfl (fun _ => rfl) ?_
  refine mm_E.s rfl rfl rfl (fun _ => rfl) ?_
  refine mm_E.iv rfl rfl rfl rfl rfl rfl v_cx1 ?_
  refine mm_E.s rfl rfl rfl (fun _ => rfl) ?_
  refine mm_E.s rfl rfl rfl (fun _ => rfl) ?_
  refine mm_E.s rfl rfl rfl (fun _ => rfl) ?_
  refine mm_E.s rfl rfl rfl (fun _ => rfl) ?_
  refine mm_E.s rfl rfl rfl (fun _ => rfl) ?_
  refine mm_E.iv rfl rfl rfl rfl rfl rfl E1 ?_
  refine mm_E.s rfl rfl rfl (fun _ => rfl) ?_
  refine mm_E.s rfl rfl rfl (fun _ => rfl) ?_
  refine mm_E.s rfl rfl rfl (fun _ => rfl) ?_
  refine mm_E.s rfl rfl rfl (fun _ => if_neg x9) ?_
  refine mm_E.s rfl rfl rfl (fun _ => rfl) ?_
  refine mm_E.s rfl rfl rfl (fun _ => rfl) ?_
  refine mm_E.s rfl rfl rfl (fun _ => if_pos y9) ?_
  refine mm_E.s rfl rfl rfl (fun _ => rfl) ?_
  refine mm_E.s rfl rfl rfl (fun _ => rfl) ?_
  refine mm_E.s rfl rfl rfl (fun _ => rfl) ?_
  refine mm_E.iv rfl rfl rfl rfl rfl rfl (v_keep1 hj x) ?_
  refine mm_E.s rfl rfl rfl (fun _ => rfl) ?_
  exact mm_E.ret rfl rfl rfl
theorem v_put01 {pl0 ke0 sz0 se0 gr0 pl1 ke1 sz1 se1 gr1 im ce wo pv fa pm pw fr ba : Nat → Int32} {rw : Nat → Int64} {ro co mo : Int32} {mi : Int64} {ki : Int32} {M : mm_H} {s x : Int32} (hh : ¬ ((¬ s ≤ 0 ∧ ¬ 256 ≤ s ∧ ¬ pl1 s.toNatClampNeg = -1) ∧ ¬ x < -9 ∧ x ≤ 9)) : mm_EC kM 43 [.ref 0, .int 1, .int s, .int x] ([.inr (3, [.ref 1, .ref 7, .ref 13, .ref 14, .ref 21, .ref 23, .ref 24]), .inr (0, [.ref 2, .ref 3, .ref 4, .ref 5, .ref 6]), x_it 256 pl0, x_it 256 ke0, x_it 4 sz0, x_it 96 se0, x_it 4 gr0, .inr (0, [.ref 8, .ref 9, .ref 10, .ref 11, .ref 12]), x_it 256 pl1, x_it 256 ke1, x_it 4 sz1, x_it 96 se1, x_it 4 gr1, x_it 8 im, .inr (1, [.ref 15, .ref 16, .ref 17, .ref 18, .ref 19, .ref 20, .int ro, .int co, .int mo, .long mi, .int ki]), x_it 2304 ce, x_it 2304 wo, x_it 31 pv, x_it 48 fa, x_it 10 pm, x_it 10 pw, .inr (2, [.ref 22]), x_lg 24 rw, x_it 24 fr, x_it 24 ba] ++ M : mm_H) (some (.int 0), ([.inr (3, [.ref 1, .ref 7, .ref 13, .ref 14, .ref 21, .ref 23, .ref 24]), .inr (0, [.ref 2, .ref 3, .ref 4, .ref 5, .ref 6]), x_it 256 pl0, x_it 256 ke0, x_it 4 sz0, x_it 96 se0, x_it 4 gr0, .inr (0, [.ref 8, .ref 9, .ref 10, .ref 11, .ref 12]), x_it 256 pl1, x_it 256 ke1, x_it 4 sz1, x_it 96 se1, x_it 4 gr1, x_it 8 im, .inr (1, [.ref 15, .ref 16, .ref 17, .ref 18, .ref 19, .ref 20, .int ro, .int co, .int mo, .long mi, .int ki]), x_it 2304 ce, x_it 2304 wo, x_it 31 pv, x_it 48 fa, x_it 10 pm, x_it 10 pw, .inr (2, [.ref 22]), x_lg 24 rw, x_it 24 fr, x_it 24 ba] ++ M : mm_H)) := by
  have E1 := v_holds1 (pl0 := pl0) (ke0 := ke0) (sz0 := sz0) (se0 := se0) (gr0 := gr0) (pl1 := pl1) (ke1 := ke1) (sz1 := sz1) (se1 := se1) (gr1 := gr1) (im := im) (ce := ce) (wo := wo) (pv := pv) (fa := fa) (pm := pm) (pw := pw) (fr := fr) (ba := ba) (rw := rw) (ro := ro) (co := co) (mo := mo) (mi := mi) (ki := ki) (M := M) s
  refine ⟨kq_43, rfl, rfl, ?_⟩
  by_cases h0 : ¬ s ≤ 0 ∧ ¬ 256 ≤ s ∧ ¬ pl1 s.toNatClampNeg = -1
  · rw [if_pos h0] at E1
    by_cases x9 : x < -9
    · skip
      refine mm_E.s rfl rfl rfl (fun _ => rfl) ?_
      refine mm_E.s rfl rfl rfl (fun _ => rfl) ?_
      refine mm_E.iv rfl rfl rfl rfl rfl rfl v_cx1 ?_
      refine mm_E.s rfl rfl rfl (fun _ => rfl) ?_
      refine mm_E.s rfl rfl rfl (fun _ => rfl) ?_
      refine mm_E.s rfl rfl rfl (fun _ => rfl) ?_
      refine mm_E.s rfl rfl rfl (fun _ => rfl) ?_
      refine mm_E.s rfl rfl rfl (fun _ => rfl) ?_
      refine mm_E.iv rfl rfl rfl rfl rfl rfl E1 ?_
      refine mm_E.s rfl rfl rfl (fun _ => rfl) ?_
      refine mm_E.s rfl rfl rfl (fun _ => rfl) ?_
      refine mm_E.s rfl rfl rfl (fun _ => rfl) ?_
      refine mm_E.s rfl rfl rfl (fun _ => if_pos x9) ?_
      refine mm_E.s rfl rfl rfl (fun _ => rfl) ?_
      exact mm_E.ret rfl rfl rfl
    · have y9 : ¬ x ≤ 9 := fun q => hh ⟨h0, x9, q⟩
      refine mm_E.s rfl rfl rfl (fun _ => rfl) ?_
      refine mm_E.s rfl rfl rfl (fun _ => rfl) ?_
      refine mm_E.iv rfl rfl rfl rfl rfl rfl v_cx1 ?_
      refine mm_E.s rfl rfl rfl (fun _ => rfl) ?_
      refine mm_E.s rfl rfl rfl (fun _ => rfl) ?_
      refine mm_E.s rfl rfl rfl (fun _ => rfl) ?_
      refine mm_E.s rfl rfl rfl (fun _ => rfl) ?_
      refine mm_E.s rfl rfl rfl (fun _ => rfl) ?_
      refine mm_E.iv rfl rfl rfl rfl rfl rfl E1 ?_
      refine mm_E.s rfl rfl rfl (fun _ => rfl) ?_
      refine mm_E.s rfl rfl rfl (fun _ => rfl) ?_
      refine mm_E.s rfl rfl rfl (fun _ => rfl) ?_
      refine mm_E.s rfl rfl rfl (fun _ => if_neg x9) ?_
      refine mm_E.s rfl rfl rfl (fun _ => rfl) ?_
      refine mm_E.s rfl rfl rfl (fun _ => rfl) ?_
      refine mm_E.s rfl rfl rfl (fun _ => if_neg y9) ?_
      refine mm_E.s rfl rfl rfl (fun _ => rfl) ?_
      exact mm_E.ret rfl rfl rfl
  · rw [if_neg h0] at E1
    refine mm_E.s rfl rfl rfl (fun _ => rfl) ?_
    refine mm_E.s rfl rfl rfl (fun _ => rfl) ?_
    refine mm_E.iv rfl rfl rfl rfl rfl rfl v_cx1 ?_
    refine mm_E.s rfl rfl rfl (fun _ => rfl) ?_
    refine mm_E.s rfl rfl rfl (fun _ => rfl) ?_
    refine mm_E.s rfl rfl rfl (fun _ => rfl) ?_
    refine mm_E.s rfl rfl rfl (fun _ => rfl) ?_
    refine mm_E.s rfl rfl rfl (fun _ => rfl) ?_
    refine mm_E.iv rfl rfl rfl rfl rfl rfl E1 ?_
    refine mm_E.s rfl rfl rfl (fun _ => rfl) ?_
    refine mm_E.s rfl rfl rfl (fun _ => rfl) ?_
    exact mm_E.ret rfl rfl rfl
theorem v_bd11 {pl0 ke0 sz0 se0 gr0 pl1 ke1 sz1 se1 gr1 im ce wo pv fa pm pw fr ba : Nat → Int32} {rw : Nat → Int64} {ro co mo : Int32} {mi : Int64} {ki : Int32} {M : mm_H} {s : Int32} {a m : Nat} (hh : ¬ s ≤ 0 ∧ ¬ 256 ≤ s ∧ ¬ pl1 s.toNatClampNeg = -1) (hd : x_dm s + 1 = nI a) (ha : a < 4) (hm : x_sok sz1 se1 a m) : mm_EC kM 45 [.ref 0, .int 1, .int s] ([.inr (3, [.ref 1, .ref 7, .ref 13, .ref 14, .ref 21, .ref 23, .ref 24]), .inr (0, [.ref 2, .ref 3, .ref 4, .ref 5, .ref 6]), x_it 256 pl0, x_it 256 ke0, x_it 4 sz0, x_it 96 se0, x_it 4 gr0, .inr (0, [.ref 8, .ref 9, .ref 10, .ref 11, .ref 12]), x_it 256 pl1, x_it 256 ke1, x_it 4 sz1, x_it 96 se1, x_it 4 gr1, x_it 8 im, .inr (1, [.ref 15, .ref 16, .ref 17, .ref 18, .ref 19, .ref 20, .int ro, .int co, .int mo, .long mi, .int ki]), x_it 2304 ce, x_it 2304 wo, x_it 31 pv, x_it 48 fa, x_it 10 pm, x_it 10 pw, .inr (2, [.ref 22]), x_lg 24 rw, x_it 24 fr, x_it 24 ba] ++ M : mm_H) (some (.int (x_ba se1 ke1 a s m)), ([.inr (3, [.ref 1, .ref 7, .ref 13, .ref 14, .ref 21, .ref 23, .ref 24]), .inr (0, [.ref 2, .ref 3, .ref 4, .ref 5, .ref 6]), x_it 256 pl0, x_it 256 ke0, x_it 4 sz0, x_it 96 se0, x_it 4 gr0, .inr (0, [.ref 8, .ref 9, .ref 10, .ref 11, .ref 12]), x_it 256 pl1, x_it 256 ke1, x_it 4 sz1, x_it 96 se1, x_it 4 gr1, x_it 8 im, .inr (1, [.ref 15, .ref 16, .ref 17, .ref 18, .ref 19, .ref 20, .int ro, .int co, .int mo, .long mi, .int ki]), x_it 2304 ce, x_it 2304 wo, x_it 31 pv, x_it 48 fa, x_it 10 pm, x_it 10 pw, .inr (2, [.ref 22]), x_lg 24 rw, x_it 24 fr, x_it 24 ba] ++ M : mm_H)) := by
  have E1 := v_holds1 (pl0 := pl0) (ke0 := ke0) (sz0 := sz0) (se0 := se0) (gr0 := gr0) (pl1 := pl1) (ke1 := ke1) (sz1 := sz1) (se1 := se1) (gr1 := gr1) (im := im) (ce := ce) (wo := wo) (pv := pv) (fa := fa) (pm := pm) (pw := pw) (fr := fr) (ba := ba) (rw := rw) (ro := ro) (co := co) (mo := mo) (mi := mi) (ki := ki) (M := M) s
  rw [if_pos hh] at E1
  refine ⟨kq_45, rfl, rfl, ?_⟩
  refine mm_E.s rfl rfl rfl (fun _ => rfl) ?_
  refine mm_E.s rfl rfl rfl (fun _ => rfl) ?_
  refine mm_E.iv rfl rfl rfl rfl rfl rfl v_cx1 ?_
  refine mm_E.s rfl rfl rfl (fun _ => rfl) ?_
  refine mm_E.s rfl rfl rfl (fun _ => rfl) ?_
  refine mm_E.s rfl rfl rfl (fun _ => rfl) ?_
  refine mm_E.s rfl rfl rfl (fun _ => rfl) ?_
  refine mm_E.s rfl rfl rfl (fun _ => rfl) ?_
  refine mm_E.iv rfl rfl rfl rfl rfl rfl E1 ?_
  refine mm_E.s rfl rfl rfl (fun _ => rfl) ?_
  refine mm_E.s rfl rfl rfl (fun _ => rfl) ?_
  refine mm_E.s rfl rfl rfl (fun _ => rfl) ?_
  refine mm_E.iv rfl rfl rfl rfl rfl rfl (v_ba1 hd ha hm) ?_
  exact mm_E.ret rfl rfl rfl
theorem v_bd01 {pl0 ke0 sz0 se0 gr0 pl1 ke1 sz1 se1 gr1 im ce wo pv fa pm pw fr ba : Nat → Int32} {rw : Nat → Int64} {ro co mo : Int32} {mi : Int64} {ki : Int32} {M : mm_H} {s : Int32} (hh : ¬ (¬ s ≤ 0 ∧ ¬ 256 ≤ s ∧ ¬ pl1 s.toNatClampNeg = -1)) : mm_EC kM 45 [.ref 0, .int 1, .int s] ([.inr (3, [.ref 1, .ref 7, .ref 13, .ref 14, .ref 21, .ref 23, .ref 24]), .inr (0, [.ref 2, .ref 3, .ref 4, .ref 5, .ref 6]), x_it 256 pl0, x_it 256 ke0, x_it 4 sz0, x_it 96 se0, x_it 4 gr0, .inr (0, [.ref 8, .ref 9, .ref 10, .ref 11, .ref 12]), x_it 256 pl1, x_it 256 ke1, x_it 4 sz1, x_it 96 se1, x_it 4 gr1, x_it 8 im, .inr (1, [.ref 15, .ref 16, .ref 17, .ref 18, .ref 19, .ref 20, .int ro, .int co, .int mo, .long mi, .int ki]), x_it 2304 ce, x_it 2304 wo, x_it 31 pv, x_it 48 fa, x_it 10 pm, x_it 10 pw, .inr (2, [.ref 22]), x_lg 24 rw, x_it 24 fr, x_it 24 ba] ++ M : mm_H) (some (.int 0), ([.inr (3, [.ref 1, .ref 7, .ref 13, .ref 14, .ref 21, .ref 23, .ref 24]), .inr (0, [.ref 2, .ref 3, .ref 4, .ref 5, .ref 6]), x_it 256 pl0, x_it 256 ke0, x_it 4 sz0, x_it 96 se0, x_it 4 gr0, .inr (0, [.ref 8, .ref 9, .ref 10, .ref 11, .ref 12]), x_it 256 pl1, x_it 256 ke1, x_it 4 sz1, x_it 96 se1, x_it 4 gr1, x_it 8 im, .inr (1, [.ref 15, .ref 16, .ref 17, .ref 18, .ref 19, .ref 20, .int ro, .int co, .int mo, .long mi, .int ki]), x_it 2304 ce, x_it 2304 wo, x_it 31 pv, x_it 48 fa, x_it 10 pm, x_it 10 pw, .inr (2, [.ref 22]), x_lg 24 rw, x_it 24 fr, x_it 24 ba] ++ M : mm_H)) := by
  have E1 := v_holds1 (pl0 := pl0) (ke0 := ke0) (sz0 := sz0) (se0 := se0) (gr0 := gr0) (pl1 := pl1) (ke1 := ke1) (sz1 := sz1) (se1 := se1) (gr1 := gr1) (im := im) (ce := ce) (wo := wo) (pv := pv) (fa := fa) (pm := pm) (pw := pw) (fr := fr) (ba := ba) (rw := rw) (ro := ro) (co := co) (mo := mo) (mi := mi) (ki := ki) (M := M) s
  rw [if_neg hh] at E1
  refine ⟨kq_45, rfl, rfl, ?_⟩
  refine mm_E.s rfl rfl rfl (fun _ => rfl) ?_
  refine mm_E.s rfl rfl rfl (fun _ => rfl) ?_
  refine mm_E.iv rfl rfl rfl rfl rfl rfl v_cx1 ?_
  refine mm_E.s rfl rfl rfl (fun _ => rfl) ?_
  refine mm_E.s rfl rfl rfl (fun _ => rfl) ?_
  refine mm_E.s rfl rfl rfl (fun _ => rfl) ?_
  refine mm_E.s rfl rfl rfl (fun _ => rfl) ?_
  refine mm_E.s rfl rfl rfl (fun _ => rfl) ?_
  refine mm_E.iv rfl rfl rfl rfl rfl rfl E1 ?_
  refine mm_E.s rfl rfl rfl (fun _ => rfl) ?_
  refine mm_E.s rfl rfl rfl (fun _ => rfl) ?_
  exact mm_E.ret rfl rfl rfl

theorem v_drop1 {pl0 ke0 sz0 se0 gr0 pl1 ke1 sz1 se1 gr1 im ce wo pv fa pm pw fr ba : Nat → Int32} {rw : Nat → Int64} {ro co mo : Int32} {mi : Int64} {ki : Int32} {M : mm_H} : mm_EC kM 3 [.ref 7] ([.inr (3, [.ref 1, .ref 7, .ref 13, .ref 14, .ref 21, .ref 23, .ref 24]), .inr (0, [.ref 2, .ref 3, .ref 4, .ref 5, .ref 6]), x_it 256 pl0, x_it 256 ke0, x_it 4 sz0, x_it 96 se0, x_it 4 gr0, .inr (0, [.ref 8, .ref 9, .ref 10, .ref 11, .ref 12]), x_it 256 pl1, x_it 256 ke1, x_it 4 sz1, x_it 96 se1, x_it 4 gr1, x_it 8 im, .inr (1, [.ref 15, .ref 16, .ref 17, .ref 18, .ref 19, .ref 20, .int ro, .int co, .int mo, .long mi, .int ki]), x_it 2304 ce, x_it 2304 wo, x_it 31 pv, x_it 48 fa, x_it 10 pm, x_it 10 pw, .inr (2, [.ref 22]), x_lg 24 rw, x_it 24 fr, x_it 24 ba] ++ M : mm_H) (none, ([.inr (3, [.ref 1, .ref 7, .ref 13, .ref 14, .ref 21, .ref 23, .ref 24]), .inr (0, [.ref 2, .ref 3, .ref 4, .ref 5, .ref 6]), x_it 256 pl0, x_it 256 ke0, x_it 4 sz0, x_it 96 se0, x_it 4 gr0, .inr (0, [.ref 8, .ref 9, .ref 10, .ref 11, .ref 12]), x_it 256 (x_fill pl1 (-1) 256), x_it 256 (x_fill ke1 0 256), x_it 4 (x_fill sz1 0 4), x_it 96 se1, x_it 4 gr1, x_it 8 im, .inr (1, [.ref 15, .ref 16, .ref 17, .ref 18, .ref 19, .ref 20, .int ro, .int co, .int mo, .long mi, .int ki]), x_it 2304 ce, x_it 2304 wo, x_it 31 pv, x_it 48 fa, x_it 10 pm, x_it 10 pw, .inr (2, [.ref 22]), x_lg 24 rw, x_it 24 fr, x_it 24 ba] ++ M : mm_H)) := by
  refine ⟨kq_3, rfl, rfl, ?_⟩
  refine mm_E.s rfl rfl rfl (fun _ => rfl) ?_
  refine mm_E.gf rfl rfl rfl rfl rfl ?_
  refine mm_E.s rfl rfl rfl (fun _ => rfl) ?_
  refine mm_E.ic rfl rfl rfl rfl rfl (x_fill_EC rfl (by decide)) ?_
  refine mm_E.s rfl rfl rfl (fun _ => rfl) ?_
  refine mm_E.gf rfl rfl rfl rfl rfl ?_
  refine mm_E.s rfl rfl rfl (fun _ => rfl) ?_
  refine mm_E.ic rfl rfl rfl rfl rfl (x_fill_EC rfl (by decide)) ?_
  refine mm_E.s rfl rfl rfl (fun _ => rfl) ?_
  refine mm_E.gf rfl rfl rfl rfl rfl ?_
  refine mm_E.s rfl rfl rfl (fun _ => rfl) ?_
  refine mm_E.ic rfl rfl rfl rfl rfl (x_fill_EC rfl (by decide)) ?_
  exact mm_E.ret rfl rfl rfl
theorem v_clear1 {pl0 ke0 sz0 se0 gr0 pl1 ke1 sz1 se1 gr1 im ce wo pv fa pm pw fr ba : Nat → Int32} {rw : Nat → Int64} {ro co mo : Int32} {mi : Int64} {ki : Int32} {M : mm_H} : mm_EC kM 35 [.ref 0, .int 1] ([.inr (3, [.ref 1, .ref 7, .ref 13, .ref 14, .ref 21, .ref 23, .ref 24]), .inr (0, [.ref 2, .ref 3, .ref 4, .ref 5, .ref 6]), x_it 256 pl0, x_it 256 ke0, x_it 4 sz0, x_it 96 se0, x_it 4 gr0, .inr (0, [.ref 8, .ref 9, .ref 10, .ref 11, .ref 12]), x_it 256 pl1, x_it 256 ke1, x_it 4 sz1, x_it 96 se1, x_it 4 gr1, x_it 8 im, .inr (1, [.ref 15, .ref 16, .ref 17, .ref 18, .ref 19, .ref 20, .int ro, .int co, .int mo, .long mi, .int ki]), x_it 2304 ce, x_it 2304 wo, x_it 31 pv, x_it 48 fa, x_it 10 pm, x_it 10 pw, .inr (2, [.ref 22]), x_lg 24 rw, x_it 24 fr, x_it 24 ba] ++ M : mm_H) (some (.int 1), ([.inr (3, [.ref 1, .ref 7, .ref 13, .ref 14, .ref 21, .ref 23, .ref 24]), .inr (0, [.ref 2, .ref 3, .ref 4, .ref 5, .ref 6]), x_it 256 pl0, x_it 256 ke0, x_it 4 sz0, x_it 96 se0, x_it 4 gr0, .inr (0, [.ref 8, .ref 9, .ref 10, .ref 11, .ref 12]), x_it 256 (x_fill pl1 (-1) 256), x_it 256 (x_fill ke1 0 256), x_it 4 (x_fill sz1 0 4), x_it 96 se1, x_it 4 gr1, x_it 8 im, .inr (1, [.ref 15, .ref 16, .ref 17, .ref 18, .ref 19, .ref 20, .int ro, .int co, .int mo, .long mi, .int ki]), x_it 2304 ce, x_it 2304 wo, x_it 31 pv, x_it 48 fa, x_it 10 pm, x_it 10 pw, .inr (2, [.ref 22]), x_lg 24 rw, x_it 24 fr, x_it 24 ba] ++ M : mm_H)) := by
  refine ⟨kq_35, rfl, rfl, ?_⟩
  refine mm_E.s rfl rfl rfl (fun _ => rfl) ?_
  refine mm_E.s rfl rfl rfl (fun _ => rfl) ?_
  refine mm_E.iv rfl rfl rfl rfl rfl rfl v_cx1 ?_
  refine mm_E.s rfl rfl rfl (fun _ => rfl) ?_
  refine mm_E.s rfl rfl rfl (fun _ => rfl) ?_
  refine mm_E.s rfl rfl rfl (fun _ => rfl) ?_
  refine mm_E.s rfl rfl rfl (fun _ => rfl) ?_
  refine mm_E.iv rfl rfl rfl rfl rfl rfl v_drop1 ?_
  refine mm_E.s rfl rfl rfl (fun _ => rfl) ?_
  exact mm_E.ret rfl rfl rfl

theorem v_addB1 {pl0 ke0 sz0 se0 gr0 pl1 ke1 sz1 se1 gr1 im ce wo pv fa pm pw fr ba : Nat → Int32} {rw : Nat → Int64} {ro co mo : Int32} {mi : Int64} {ki : Int32} {M : mm_H} {s : Int32} (hb : ¬ (¬ s < 1 ∧ ¬ 256 ≤ s ∧ x_bc s ≤ 4)) : mm_EC kM 34 [.ref 0, .int 1, .int s] ([.inr (3, [.ref 1, .ref 7, .ref 13, .ref 14, .ref 21, .ref 23, .ref 24]), .inr (0, [.ref 2, .ref 3, .ref 4, .ref 5, .ref 6]), x_it 256 pl0, x_it 256 ke0, x_it 4 sz0, x_it 96 se0, x_it 4 gr0, .inr (0, [.ref 8, .ref 9, .ref 10, .ref 11, .ref 12]), x_it 256 pl1, x_it 256 ke1, x_it 4 sz1, x_it 96 se1, x_it 4 gr1, x_it 8 im, .inr (1, [.ref 15, .ref 16, .ref 17, .ref 18, .ref 19, .ref 20, .int ro, .int co, .int mo, .long mi, .int ki]), x_it 2304 ce, x_it 2304 wo, x_it 31 pv, x_it 48 fa, x_it 10 pm, x_it 10 pw, .inr (2, [.ref 22]), x_lg 24 rw, x_it 24 fr, x_it 24 ba] ++ M : mm_H) (some (.int (-1)), ([.inr (3, [.ref 1, .ref 7, .ref 13, .ref 14, .ref 21, .ref 23, .ref 24]), .inr (0, [.ref 2, .ref 3, .ref 4, .ref 5, .ref 6]), x_it 256 pl0, x_it 256 ke0, x_it 4 sz0, x_it 96 se0, x_it 4 gr0, .inr (0, [.ref 8, .ref 9, .ref 10, .ref 11, .ref 12]), x_it 256 pl1, x_it 256 ke1, x_it 4 sz1, x_it 96 se1, x_it 4 gr1, x_it 8 im, .inr (1, [.ref 15, .ref 16, .ref 17, .ref 18, .ref 19, .ref 20, .int ro, .int co, .int mo, .long mi, .int ki]), x_it 2304 ce, x_it 2304 wo, x_it 31 pv, x_it 48 fa, x_it 10 pm, x_it 10 pw, .inr (2, [.ref 22]), x_lg 24 rw, x_it 24 fr, x_it 24 ba] ++ M : mm_H)) := by
  refine ⟨kq_34, rfl, rfl, ?_⟩
  by_cases h1 : s < 1
  · skip
    refine mm_E.s rfl rfl rfl (fun _ => rfl) ?_
    refine mm_E.s rfl rfl rfl (fun _ => rfl) ?_
    refine mm_E.iv rfl rfl rfl rfl rfl rfl v_cx1 ?_
    refine mm_E.s rfl rfl rfl (fun _ => rfl) ?_
    refine mm_E.s rfl rfl rfl (fun _ => rfl) ?_
    refine mm_E.s rfl rfl rfl (fun _ => rfl) ?_
    refine mm_E.s rfl rfl rfl (fun _ => rfl) ?_
    refine mm_E.s rfl rfl rfl (fun _ => rfl) ?_
    refine mm_E.s rfl rfl rfl (fun _ => if_pos h1) ?_
    refine mm_E.s rfl rfl rfl (fun _ => rfl) ?_
    exact mm_E.ret rfl rfl rfl
  · by_cases h2 : 256 ≤ s
    · skip
      refine mm_E.s rfl rfl rfl (fun _ => rfl) ?_
      refine mm_E.s rfl rfl rfl (fun _ => rfl) ?_
      refine mm_E.iv rfl rfl rfl rfl rfl rfl v_cx1 ?_
      refine mm_E.s rfl rfl rfl (fun _ => rfl) ?_
      refine mm_E.s rfl rfl rfl (fun _ => rfl) ?_
      refine mm_E.s rfl rfl rfl (fun _ => rfl) ?_
      refine mm_E.s rfl rfl rfl (fun _ => rfl) ?_
      refine mm_E.s rfl rfl rfl (fun _ => rfl) ?_
      refine mm_E.s rfl rfl rfl (fun _ => if_neg h1) ?_
      refine mm_E.s rfl rfl rfl (fun _ => rfl) ?_
      refine mm_E.s rfl rfl rfl (fun _ => rfl) ?_
      refine mm_E.s rfl rfl rfl (fun _ => if_pos h2) ?_
      refine mm_E.s rfl rfl rfl (fun _ => rfl) ?_
      exact mm_E.ret rfl rfl rfl
    · have h4 : ¬ x_bc s ≤ 4 := fun q => hb ⟨h1, h2, q⟩
      refine mm_E.s rfl rfl rfl (fun _ => rfl) ?_
      refine mm_E.s rfl rfl rfl (fun _ => rfl) ?_
      refine mm_E.iv rfl rfl rfl rfl rfl rfl v_cx1 ?_
      refine mm_E.s rfl rfl rfl (fun _ => rfl) ?_
      refine mm_E.s rfl rfl rfl (fun _ => rfl) ?_
      refine mm_E.s rfl rfl rfl (fun _ => rfl) ?_
      refine mm_E.s rfl rfl rfl (fun _ => rfl) ?_
      refine mm_E.s rfl rfl rfl (fun _ => rfl) ?_
      refine mm_E.s rfl rfl rfl (fun _ => if_neg h1) ?_
      refine mm_E.s rfl rfl rfl (fun _ => rfl) ?_
      refine mm_E.s rfl rfl rfl (fun _ => rfl) ?_
      refine mm_E.s rfl rfl rfl (fun _ => if_neg h2) ?_
      refine mm_E.s rfl rfl rfl (fun _ => rfl) ?_
      refine mm_E.ic rfl rfl rfl rfl rfl (z_bc _) ?_
      refine mm_E.s rfl rfl rfl (fun _ => rfl) ?_
      refine mm_E.s rfl rfl rfl (fun _ => if_neg h4) ?_
      refine mm_E.s rfl rfl rfl (fun _ => rfl) ?_
      exact mm_E.ret rfl rfl rfl
theorem v_addC1 {pl0 ke0 sz0 se0 gr0 pl1 ke1 sz1 se1 gr1 im ce wo pv fa pm pw fr ba : Nat → Int32} {rw : Nat → Int64} {ro co mo : Int32} {mi : Int64} {ki : Int32} {M : mm_H} {s : Nat} (hs1 : 1 ≤ s) (hs : s < 256) (h4 : x_bc (nI s) ≤ 4) {r : Int32} {h1 : mm_H} (E1 : mm_EC kM 10 [.ref 7, .int (nI s)] ([.inr (3, [.ref 1, .ref 7, .ref 13, .ref 14, .ref 21, .ref 23, .ref 24]), .inr (0, [.ref 2, .ref 3, .ref 4, .ref 5, .ref 6]), x_it 256 pl0, x_it 256 ke0, x_it 4 sz0, x_it 96 se0, x_it 4 gr0, .inr (0, [.ref 8, .ref 9, .ref 10, .ref 11, .ref 12]), x_it 256 pl1, x_it 256 ke1, x_it 4 sz1, x_it 96 se1, x_it 4 gr1, x_it 8 im, .inr (1, [.ref 15, .ref 16, .ref 17, .ref 18, .ref 19, .ref 20, .int ro, .int co, .int mo, .long mi, .int ki]), x_it 2304 ce, x_it 2304 wo, x_it 31 pv, x_it 48 fa, x_it 10 pm, x_it 10 pw, .inr (2, [.ref 22]), x_lg 24 rw, x_it 24 fr, x_it 24 ba] ++ M : mm_H) (some (.int r), h1)) : mm_EC kM 34 [.ref 0, .int 1, .int (nI s)] ([.inr (3, [.ref 1, .ref 7, .ref 13, .ref 14, .ref 21, .ref 23, .ref 24]), .inr (0, [.ref 2, .ref 3, .ref 4, .ref 5, .ref 6]), x_it 256 pl0, x_it 256 ke0, x_it 4 sz0, x_it 96 se0, x_it 4 gr0, .inr (0, [.ref 8, .ref 9, .ref 10, .ref 11, .ref 12]), x_it 256 pl1, x_it 256 ke1, x_it 4 sz1, x_it 96 se1, x_it 4 gr1, x_it 8 im, .inr (1, [.ref 15, .ref 16, .ref 17, .ref 18, .ref 19, .ref 20, .int ro, .int co, .int mo, .long mi, .int ki]), x_it 2304 ce, x_it 2304 wo, x_it 31 pv, x_it 48 fa, x_it 10 pm, x_it 10 pw, .inr (2, [.ref 22]), x_lg 24 rw, x_it 24 fr, x_it 24 ba] ++ M : mm_H) (some (.int r), h1) := by
  refine ⟨kq_34, rfl, rfl, ?_⟩
  refine mm_E.s rfl rfl rfl (fun _ => rfl) ?_
  refine mm_E.s rfl rfl rfl (fun _ => rfl) ?_
  refine mm_E.iv rfl rfl rfl rfl rfl rfl v_cx1 ?_
  refine mm_E.s rfl rfl rfl (fun _ => rfl) ?_
  refine mm_E.s rfl rfl rfl (fun _ => rfl) ?_
  refine mm_E.s rfl rfl rfl (fun _ => rfl) ?_
  refine mm_E.s rfl rfl rfl (fun _ => rfl) ?_
  refine mm_E.s rfl rfl rfl (fun _ => rfl) ?_
  refine mm_E.s rfl rfl rfl (fun _ => if_neg (nI_nlt (a := s) (b := 1) (by omega) (by omega))) ?_
  refine mm_E.s rfl rfl rfl (fun _ => rfl) ?_
  refine mm_E.s rfl rfl rfl (fun _ => rfl) ?_
  refine mm_E.s rfl rfl rfl (fun _ => if_neg (nI_ge (a := s) (b := 256) (by omega) (by decide))) ?_
  refine mm_E.s rfl rfl rfl (fun _ => rfl) ?_
  refine mm_E.ic rfl rfl rfl rfl rfl (z_bc _) ?_
  refine mm_E.s rfl rfl rfl (fun _ => rfl) ?_
  refine mm_E.s rfl rfl rfl (fun _ => if_pos h4) ?_
  refine mm_E.s rfl rfl rfl (fun _ => rfl) ?_
  refine mm_E.s rfl rfl rfl (fun _ => rfl) ?_
  refine mm_E.iv rfl rfl rfl rfl rfl rfl E1 ?_
  exact mm_E.ret rfl rfl rfl

theorem v_map1 {pl0 ke0 sz0 se0 gr0 pl1 ke1 sz1 se1 gr1 im ce wo pv fa pm pw fr ba : Nat → Int32} {rw : Nat → Int64} {ro co mo : Int32} {mi : Int64} {ki : Int32} {M : mm_H} {v u : Int32} (hv : (¬ v < 0 ∧ ¬ 7 < v) ∧ ¬ u < 0 ∧ u ≤ 7) : mm_EC kM 47 [.ref 0, .int v, .int u] ([.inr (3, [.ref 1, .ref 7, .ref 13, .ref 14, .ref 21, .ref 23, .ref 24]), .inr (0, [.ref 2, .ref 3, .ref 4, .ref 5, .ref 6]), x_it 256 pl0, x_it 256 ke0, x_it 4 sz0, x_it 96 se0, x_it 4 gr0, .inr (0, [.ref 8, .ref 9, .ref 10, .ref 11, .ref 12]), x_it 256 pl1, x_it 256 ke1, x_it 4 sz1, x_it 96 se1, x_it 4 gr1, x_it 8 im, .inr (1, [.ref 15, .ref 16, .ref 17, .ref 18, .ref 19, .ref 20, .int ro, .int co, .int mo, .long mi, .int ki]), x_it 2304 ce, x_it 2304 wo, x_it 31 pv, x_it 48 fa, x_it 10 pm, x_it 10 pw, .inr (2, [.ref 22]), x_lg 24 rw, x_it 24 fr, x_it 24 ba] ++ M : mm_H) (some (.int 1), ([.inr (3, [.ref 1, .ref 7, .ref 13, .ref 14, .ref 21, .ref 23, .ref 24]), .inr (0, [.ref 2, .ref 3, .ref 4, .ref 5, .ref 6]), x_it 256 pl0, x_it 256 ke0, x_it 4 sz0, x_it 96 se0, x_it 4 gr0, .inr (0, [.ref 8, .ref 9, .ref 10, .ref 11, .ref 12]), x_it 256 pl1, x_it 256 ke1, x_it 4 sz1, x_it 96 se1, x_it 4 gr1, x_it 8 (upd im v.toNatClampNeg u), .inr (1, [.ref 15, .ref 16, .ref 17, .ref 18, .ref 19, .ref 20, .int ro, .int co, .int mo, .long mi, .int ki]), x_it 2304 ce, x_it 2304 wo, x_it 31 pv, x_it 48 fa, x_it 10 pm, x_it 10 pw, .inr (2, [.ref 22]), x_lg 24 rw, x_it 24 fr, x_it 24 ba] ++ M : mm_H)) := by
  obtain ⟨⟨v0, v7⟩, u0, u7⟩ := hv
  have v8 : ¬ 8 ≤ v := fun q => v7 (x_87.mp q)
  obtain ⟨j, hj, rfl⟩ := nI_of2 (x := v) (M := 7) (n := 7) rfl v0 (Int32.not_lt.mp v7)
  refine ⟨kq_47, rfl, rfl, ?_⟩
  refine mm_E.s rfl rfl rfl (fun _ => rfl) ?_
  refine mm_E.s rfl rfl rfl (fun _ => if_neg v0) ?_
  refine mm_E.s rfl rfl rfl (fun _ => rfl) ?_
  refine mm_E.s rfl rfl rfl (fun _ => rfl) ?_
  refine mm_E.s rfl rfl rfl (fun _ => if_neg v8) ?_
  refine mm_E.s rfl rfl rfl (fun _ => rfl) ?_
  refine mm_E.s rfl rfl rfl (fun _ => if_neg u0) ?_
  refine mm_E.s rfl rfl rfl (fun _ => rfl) ?_
  refine mm_E.s rfl rfl rfl (fun _ => rfl) ?_
  refine mm_E.s rfl rfl rfl (fun _ => if_pos (x_78.mpr u7)) ?_
  refine mm_E.s rfl rfl rfl (fun _ => rfl) ?_
  refine mm_E.gf rfl rfl rfl rfl rfl ?_
  refine mm_E.s rfl rfl rfl (fun _ => rfl) ?_
  refine mm_E.s rfl rfl rfl (fun _ => rfl) ?_
  refine mm_E.is rfl rfl rfl (mm_bd (by omega) (by decide)) rfl ?_
  refine mm_E.s rfl rfl rfl (fun _ => rfl) ?_
  exact mm_E.ret rfl rfl rfl
theorem v_map0 {pl0 ke0 sz0 se0 gr0 pl1 ke1 sz1 se1 gr1 im ce wo pv fa pm pw fr ba : Nat → Int32} {rw : Nat → Int64} {ro co mo : Int32} {mi : Int64} {ki : Int32} {M : mm_H} {v u : Int32} (hv : ¬ ((¬ v < 0 ∧ ¬ 7 < v) ∧ ¬ u < 0 ∧ u ≤ 7)) : mm_EC kM 47 [.ref 0, .int v, .int u] ([.inr (3, [.ref 1, .ref 7, .ref 13, .ref 14, .ref 21, .ref 23, .ref 24]), .inr (0, [.ref 2, .ref 3, .ref 4, .ref 5, .ref 6]), x_it 256 pl0, x_it 256 ke0, x_it 4 sz0, x_it 96 se0, x_it 4 gr0, .inr (0, [.ref 8, .ref 9, .ref 10, .ref 11, .ref 12]), x_it 256 pl1, x_it 256 ke1, x_it 4 sz1, x_it 96 se1, x_it 4 gr1, x_it 8 im, .inr (1, [.ref 15, .ref 16, .ref 17, .ref 18, .ref 19, .ref 20, .int ro, .int co, .int mo, .long mi, .int ki]), x_it 2304 ce, x_it 2304 wo, x_it 31 pv, x_it 48 fa, x_it 10 pm, x_it 10 pw, .inr (2, [.ref 22]), x_lg 24 rw, x_it 24 fr, x_it 24 ba] ++ M : mm_H) (some (.int 0), ([.inr (3, [.ref 1, .ref 7, .ref 13, .ref 14, .ref 21, .ref 23, .ref 24]), .inr (0, [.ref 2, .ref 3, .ref 4, .ref 5, .ref 6]), x_it 256 pl0, x_it 256 ke0, x_it 4 sz0, x_it 96 se0, x_it 4 gr0, .inr (0, [.ref 8, .ref 9, .ref 10, .ref 11, .ref 12]), x_it 256 pl1, x_it 256 ke1, x_it 4 sz1, x_it 96 se1, x_it 4 gr1, x_it 8 im, .inr (1, [.ref 15, .ref 16, .ref 17, .ref 18, .ref 19, .ref 20, .int ro, .int co, .int mo, .long mi, .int ki]), x_it 2304 ce, x_it 2304 wo, x_it 31 pv, x_it 48 fa, x_it 10 pm, x_it 10 pw, .inr (2, [.ref 22]), x_lg 24 rw, x_it 24 fr, x_it 24 ba] ++ M : mm_H)) := by
  refine ⟨kq_47, rfl, rfl, ?_⟩
  by_cases v0 : v < 0
  · skip
    refine mm_E.s rfl rfl rfl (fun _ => rfl) ?_
    refine mm_E.s rfl rfl rfl (fun _ => if_pos v0) ?_
    refine mm_E.s rfl rfl rfl (fun _ => rfl) ?_
    exact mm_E.ret rfl rfl rfl
  · by_cases v7 : 7 < v
    · skip
      refine mm_E.s rfl rfl rfl (fun _ => rfl) ?_
      refine mm_E.s rfl rfl rfl (fun _ => if_neg v0) ?_
      refine mm_E.s rfl rfl rfl (fun _ => rfl) ?_
      refine mm_E.s rfl rfl rfl (fun _ => rfl) ?_
      refine mm_E.s rfl rfl rfl (fun _ => if_pos (x_87.mpr v7)) ?_
      refine mm_E.s rfl rfl rfl (fun _ => rfl) ?_
      exact mm_E.ret rfl rfl rfl
    · have v8 : ¬ 8 ≤ v := fun q => v7 (x_87.mp q)
      by_cases u0 : u < 0
      · skip
        refine mm_E.s rfl rfl rfl (fun _ => rfl) ?_
        refine mm_E.s rfl rfl rfl (fun _ => if_neg v0) ?_
        refine mm_E.s rfl rfl rfl (fun _ => rfl) ?_
        refine mm_E.s rfl rfl rfl (fun _ => rfl) ?_
        refine mm_E.s rfl rfl rfl (fun _ => if_neg v8) ?_
        refine mm_E.s rfl rfl rfl (fun _ => rfl) ?_
        refine mm_E.s rfl rfl rfl (fun _ => if_pos u0) ?_
        refine mm_E.s rfl rfl rfl (fun _ => rfl) ?_
        exact mm_E.ret rfl rfl rfl
      · have u8 : ¬ u < 8 := fun q => hv ⟨⟨v0, v7⟩, u0, x_78.mp q⟩
        refine mm_E.s rfl rfl rfl (fun _ => rfl) ?_
        refine mm_E.s rfl rfl rfl (fun _ => if_neg v0) ?_
        refine mm_E.s rfl rfl rfl (fun _ => rfl) ?_
        refine mm_E.s rfl rfl rfl (fun _ => rfl) ?_
        refine mm_E.s rfl rfl rfl (fun _ => if_neg v8) ?_
        refine mm_E.s rfl rfl rfl (fun _ => rfl) ?_
        refine mm_E.s rfl rfl rfl (fun _ => if_neg u0) ?_
        refine mm_E.s rfl rfl rfl (fun _ => rfl) ?_
        refine mm_E.s rfl rfl rfl (fun _ => rfl) ?_
        refine mm_E.s rfl rfl rfl (fun _ => if_neg u8) ?_
        refine mm_E.s rfl rfl rfl (fun _ => rfl) ?_
        exact mm_E.ret rfl rfl rfl

