theorem z_nk {h : mm_H} (p : Int32) : mm_EC kM 27 [.ref 14, .int p, .int 0] h (none, h) := by
  refine ⟨kq_27, rfl, rfl, ?_⟩
  refine mm_E.s rfl rfl rfl (fun _ => rfl) ?_
  refine mm_E.s rfl rfl rfl (fun _ => rfl) ?_
  exact mm_E.ret rfl rfl rfl

theorem z_kind {h : mm_H} {ro co : Int32} {mi : Int64} {ki : Int32} (hE : x_e0 h ro co mi ki) : ∃ mo h', mm_nth h 14 = some (.inr (1, [.ref 15, .ref 16, .ref 17, .ref 18, .ref 19, .ref 20, .int ro, .int co, .int mo, .long mi, .int ki])) ∧ mm_put h 14 (.inr (1, [.ref 15, .ref 16, .ref 17, .ref 18, .ref 19, .ref 20, .int ro, .int co, .int mo, .long mi, .int 0])) = some h' ∧ x_e0 h' ro co mi 0 := by
  obtain ⟨pl0, ke0, sz0, se0, gr0, pl1, ke1, sz1, se1, gr1, im, ce, wo, pv, fa, pm, pw, fr, ba, rw, mo, M, rfl, hs0, hs1, hp0, hp1, hM⟩ := hE
  exact ⟨mo, ([.inr (3, [.ref 1, .ref 7, .ref 13, .ref 14, .ref 21, .ref 23, .ref 24]), .inr (0, [.ref 2, .ref 3, .ref 4, .ref 5, .ref 6]), x_it 256 pl0, x_it 256 ke0, x_it 4 sz0, x_it 96 se0, x_it 4 gr0, .inr (0, [.ref 8, .ref 9, .ref 10, .ref 11, .ref 12]), x_it 256 pl1, x_it 256 ke1, x_it 4 sz1, x_it 96 se1, x_it 4 gr1, x_it 8 im, .inr (1, [.ref 15, .ref 16, .ref 17, .ref 18, .ref 19, .ref 20, .int ro, .int co, .int mo, .long mi, .int 0]), x_it 2304 ce, x_it 2304 wo, x_it 31 pv, x_it 48 fa, x_it 10 pm, x_it 10 pw, .inr (2, [.ref 22]), x_lg 24 rw, x_it 24 fr, x_it 24 ba] ++ M : mm_H), rfl, rfl, ⟨pl0, ke0, sz0, se0, gr0, pl1, ke1, sz1, se1, gr1, im, ce, wo, pv, fa, pm, pw, fr, ba, rw, mo, M, rfl, hs0, hs1, hp0, hp1, hM⟩⟩
theorem z_cols {h : mm_H} {ro co : Int32} {mi : Int64} {ki : Int32} (hE : x_e0 h ro co mi ki) (c : Int32) : ∃ mo h', mm_nth h 14 = some (.inr (1, [.ref 15, .ref 16, .ref 17, .ref 18, .ref 19, .ref 20, .int ro, .int co, .int mo, .long mi, .int ki])) ∧ mm_put h 14 (.inr (1, [.ref 15, .ref 16, .ref 17, .ref 18, .ref 19, .ref 20, .int ro, .int c, .int mo, .long mi, .int ki])) = some h' ∧ x_e0 h' ro c mi ki := by
  obtain ⟨pl0, ke0, sz0, se0, gr0, pl1, ke1, sz1, se1, gr1, im, ce, wo, pv, fa, pm, pw, fr, ba, rw, mo, M, rfl, hs0, hs1, hp0, hp1, hM⟩ := hE
  exact ⟨mo, ([.inr (3, [.ref 1, .ref 7, .ref 13, .ref 14, .ref 21, .ref 23, .ref 24]), .inr (0, [.ref 2, .ref 3, .ref 4, .ref 5, .ref 6]), x_it 256 pl0, x_it 256 ke0, x_it 4 sz0, x_it 96 se0, x_it 4 gr0, .inr (0, [.ref 8, .ref 9, .ref 10, .ref 11, .ref 12]), x_it 256 pl1, x_it 256 ke1, x_it 4 sz1, x_it 96 se1, x_it 4 gr1, x_it 8 im, .inr (1, [.ref 15, .ref 16, .ref 17, .ref 18, .ref 19, .ref 20, .int ro, .int c, .int mo, .long mi, .int ki]), x_it 2304 ce, x_it 2304 wo, x_it 31 pv, x_it 48 fa, x_it 10 pm, x_it 10 pw, .inr (2, [.ref 22]), x_lg 24 rw, x_it 24 fr, x_it 24 ba] ++ M : mm_H), rfl, rfl, ⟨pl0, ke0, sz0, se0, gr0, pl1, ke1, sz1, se1, gr1, im, ce, wo, pv, fa, pm, pw, fr, ba, rw, mo, M, rfl, hs0, hs1, hp0, hp1, hM⟩⟩
theorem z_split {h : mm_H} {mi : Int64} {ki : Int32} (hE : x_e0 h 0 0 mi ki) : ∃ h', mm_EC kM 26 [.ref 14] h (some (.int 0), h') ∧ x_e0 h' 0 0 1 0 := by
  obtain ⟨fg, hg⟩ := z_g14 hE
  obtain ⟨h1, E1, hE1⟩ := z_el0 hE 2147483647
  obtain ⟨mo, h2, hO1, hP1, hE2⟩ := z_kind hE1
  obtain ⟨fg2, hg2⟩ := z_g14 hE2
  refine ⟨h2, ⟨kq_26, rfl, rfl, ?_⟩, hE2⟩
  refine mm_E.s rfl rfl rfl (fun _ => rfl) ?_
  refine mm_E.s rfl rfl rfl (fun _ => rfl) ?_
  refine mm_E.s rfl rfl rfl (fun _ => rfl) ?_
  refine mm_E.iv rfl rfl rfl rfl hg rfl E1 ?_
  refine mm_E.s rfl rfl rfl (fun _ => rfl) ?_
  refine mm_E.s rfl rfl rfl (fun _ => rfl) ?_
  refine mm_E.gf rfl rfl rfl hO1 rfl ?_
  refine mm_E.s rfl rfl rfl (fun _ => rfl) ?_
  refine mm_E.s rfl rfl rfl (fun _ => rfl) ?_
  refine mm_E.gf rfl rfl rfl hO1 rfl ?_
  refine mm_E.s rfl rfl rfl (fun _ => rfl) ?_
  refine mm_E.s rfl rfl rfl (fun _ => rfl) ?_
  refine mm_E.s rfl rfl rfl (fun _ => rfl) ?_
  refine mm_E.s rfl rfl rfl (fun _ => rfl) ?_
  refine mm_E.s rfl rfl rfl (fun _ => rfl) ?_
  refine mm_E.s rfl rfl rfl (fun _ => rfl) ?_
  refine mm_E.pfi rfl rfl rfl hO1 rfl hP1 ?_
  refine mm_E.s rfl rfl rfl (fun _ => rfl) ?_
  refine mm_E.s rfl rfl rfl (fun _ => rfl) ?_
  refine mm_E.s rfl rfl rfl (fun _ => rfl) ?_
  refine mm_E.s rfl rfl rfl (fun _ => rfl) ?_
  refine mm_E.s rfl rfl rfl (fun _ => rfl) ?_
  refine mm_E.s rfl rfl rfl (fun _ => rfl) ?_
  refine mm_E.s rfl rfl rfl (fun _ => rfl) ?_
  refine mm_E.s rfl rfl rfl (fun _ => rfl) ?_
  refine mm_E.s rfl rfl rfl (fun _ => rfl) ?_
  refine mm_E.s rfl rfl rfl (fun _ => rfl) ?_
  refine mm_E.s rfl rfl rfl (fun _ => rfl) ?_
  refine mm_E.s rfl rfl rfl (fun _ => rfl) ?_
  refine mm_E.s rfl rfl rfl (fun _ => rfl) ?_
  refine mm_E.iv rfl rfl rfl rfl hg2 rfl (z_nk _) ?_
  refine mm_E.s rfl rfl rfl (fun _ => rfl) ?_
  exact mm_E.ret rfl rfl rfl

theorem z_ff {h : mm_H} {mi : Int64} {ki : Int32} (hE : x_e0 h 0 0 mi ki) : ∃ h', mm_EC kM 28 [.ref 14] h (some (.int 0), h') ∧ x_e0 h' 0 0 1 0 := by
  obtain ⟨fg, hg⟩ := z_g14 hE
  obtain ⟨h1, E1, hE1⟩ := z_split hE
  obtain ⟨mo, h2, hO1, hP1, hE2⟩ := z_kind hE1
  refine ⟨h1, ⟨kq_28, rfl, rfl, ?_⟩, hE1⟩
  refine mm_E.s rfl rfl rfl (fun _ => rfl) ?_
  refine mm_E.iv rfl rfl rfl rfl hg rfl E1 ?_
  refine mm_E.s rfl rfl rfl (fun _ => rfl) ?_
  refine mm_E.s rfl rfl rfl (fun _ => rfl) ?_
  refine mm_E.s rfl rfl rfl (fun _ => rfl) ?_
  refine mm_E.s rfl rfl rfl (fun _ => rfl) ?_
  refine mm_E.s rfl rfl rfl (fun _ => rfl) ?_
  refine mm_E.s rfl rfl rfl (fun _ => rfl) ?_
  refine mm_E.s rfl rfl rfl (fun _ => rfl) ?_
  refine mm_E.s rfl rfl rfl (fun _ => rfl) ?_
  refine mm_E.s rfl rfl rfl (fun _ => rfl) ?_
  refine mm_E.s rfl rfl rfl (fun _ => rfl) ?_
  refine mm_E.gf rfl rfl rfl hO1 rfl ?_
  refine mm_E.s rfl rfl rfl (fun _ => rfl) ?_
  refine mm_E.s rfl rfl rfl (fun _ => rfl) ?_
  exact mm_E.ret rfl rfl rfl

theorem z_last {h : mm_H} {mi : Int64} {ki : Int32} (hE : x_e0 h 0 1 mi ki) : ∃ h', mm_EC kM 29 [.ref 14] h (some (.int 1), h') ∧ x_e0 h' 0 1 1 0 := by
  obtain ⟨mo, h1, hO, hP, hE1⟩ := z_cols hE 0
  obtain ⟨fg1, hg1⟩ := z_g14 hE1
  obtain ⟨h2, E2, hE2⟩ := z_split hE1
  obtain ⟨mo2, h3, hO2, hP2, hE3⟩ := z_cols hE2 1
  obtain ⟨fg3, hg3⟩ := z_g14 hE3
  obtain ⟨h4, E4, hE4⟩ := z_el1 hE3 2147483647
  obtain ⟨mo4, h5, hO4, hP4, hE5⟩ := z_cols hE4 1
  refine ⟨h4, ⟨kq_29, rfl, rfl, ?_⟩, hE4⟩
  refine mm_E.s rfl rfl rfl (fun _ => rfl) ?_
  refine mm_E.gf rfl rfl rfl hO rfl ?_
  refine mm_E.s rfl rfl rfl (fun _ => rfl) ?_
  refine mm_E.s rfl rfl rfl (fun _ => rfl) ?_
  refine mm_E.s rfl rfl rfl (fun _ => rfl) ?_
  refine mm_E.s rfl rfl rfl (fun _ => rfl) ?_
  refine mm_E.s rfl rfl rfl (fun _ => rfl) ?_
  refine mm_E.pfi rfl rfl rfl hO rfl hP ?_
  refine mm_E.s rfl rfl rfl (fun _ => rfl) ?_
  refine mm_E.iv rfl rfl rfl rfl hg1 rfl E2 ?_
  refine mm_E.s rfl rfl rfl (fun _ => rfl) ?_
  refine mm_E.s rfl rfl rfl (fun _ => rfl) ?_
  refine mm_E.s rfl rfl rfl (fun _ => rfl) ?_
  refine mm_E.pfi rfl rfl rfl hO2 rfl hP2 ?_
  refine mm_E.s rfl rfl rfl (fun _ => rfl) ?_
  refine mm_E.s rfl rfl rfl (fun _ => rfl) ?_
  refine mm_E.s rfl rfl rfl (fun _ => rfl) ?_
  refine mm_E.iv rfl rfl rfl rfl hg3 rfl E4 ?_
  refine mm_E.s rfl rfl rfl (fun _ => rfl) ?_
  refine mm_E.s rfl rfl rfl (fun _ => rfl) ?_
  refine mm_E.s rfl rfl rfl (fun _ => rfl) ?_
  refine mm_E.s rfl rfl rfl (fun _ => rfl) ?_
  refine mm_E.s rfl rfl rfl (fun _ => rfl) ?_
  refine mm_E.s rfl rfl rfl (fun _ => rfl) ?_
  refine mm_E.s rfl rfl rfl (fun _ => rfl) ?_
  refine mm_E.s rfl rfl rfl (fun _ => rfl) ?_
  refine mm_E.gf rfl rfl rfl hO4 rfl ?_
  refine mm_E.s rfl rfl rfl (fun _ => rfl) ?_
  refine mm_E.s rfl rfl rfl (fun _ => rfl) ?_
  exact mm_E.ret rfl rfl rfl

theorem z_wb0 {h : mm_H} {ro co : Int32} {mi : Int64} {ki : Int32} (hE : x_e0 h ro co mi ki) (k r c : Int32) : mm_EC kM 60 [.ref 0, .ref 1, .int k, .int r, .int c] h (none, h) := by
  obtain ⟨fa, hca⟩ := z_c1 hE
  obtain ⟨fb, hcb⟩ := z_c7 hE
  refine ⟨kq_60, rfl, rfl, ?_⟩
  by_cases hk : k = 0
  · skip
    refine mm_E.s rfl rfl rfl (fun _ => rfl) ?_
    refine mm_E.s rfl rfl rfl (fun _ => if_pos hk) ?_
    exact mm_E.ret rfl rfl rfl
  · skip
    refine mm_E.s rfl rfl rfl (fun _ => rfl) ?_
    refine mm_E.s rfl rfl rfl (fun _ => if_neg hk) ?_
    refine mm_E.s rfl rfl rfl (fun _ => rfl) ?_
    refine mm_E.s rfl rfl rfl (fun _ => rfl) ?_
    refine mm_E.s rfl rfl rfl (fun _ => rfl) ?_
    refine mm_E.s rfl rfl rfl (fun _ => rfl) ?_
    refine mm_E.s rfl rfl rfl (fun _ => rfl) ?_
    refine mm_E.iv rfl rfl rfl rfl hca rfl (z_size0 hE _) ?_
    refine mm_E.s rfl rfl rfl (fun _ => rfl) ?_
    exact mm_E.ret rfl rfl rfl

theorem z_wb1 {h : mm_H} {ro co : Int32} {mi : Int64} {ki : Int32} (hE : x_e0 h ro co mi ki) (k r c : Int32) : mm_EC kM 60 [.ref 0, .ref 7, .int k, .int r, .int c] h (none, h) := by
  obtain ⟨fa, hca⟩ := z_c1 hE
  obtain ⟨fb, hcb⟩ := z_c7 hE
  refine ⟨kq_60, rfl, rfl, ?_⟩
  by_cases hk : k = 0
  · skip
    refine mm_E.s rfl rfl rfl (fun _ => rfl) ?_
    refine mm_E.s rfl rfl rfl (fun _ => if_pos hk) ?_
    exact mm_E.ret rfl rfl rfl
  · skip
    refine mm_E.s rfl rfl rfl (fun _ => rfl) ?_
    refine mm_E.s rfl rfl rfl (fun _ => if_neg hk) ?_
    refine mm_E.s rfl rfl rfl (fun _ => rfl) ?_
    refine mm_E.s rfl rfl rfl (fun _ => rfl) ?_
    refine mm_E.s rfl rfl rfl (fun _ => rfl) ?_
    refine mm_E.s rfl rfl rfl (fun _ => rfl) ?_
    refine mm_E.s rfl rfl rfl (fun _ => rfl) ?_
    refine mm_E.iv rfl rfl rfl rfl hcb rfl (z_size1 hE _) ?_
    refine mm_E.s rfl rfl rfl (fun _ => rfl) ?_
    exact mm_E.ret rfl rfl rfl

theorem z_lb0 {h : mm_H} {ro co : Int32} {mi : Int64} {ki : Int32} (hE : x_e0 h ro co mi ki) (k : Int32) : ∃ h', mm_EC kM 59 [.ref 0, .ref 1, .int k] h (none, h') ∧ x_e0 h' 0 0 mi ki := by
  obtain ⟨fx, hx, hx1, hx7, hx14, hx21⟩ := z_x0 hE
  obtain ⟨fa, hca⟩ := z_c1 hE
  obtain ⟨fb, hcb⟩ := z_c7 hE
  obtain ⟨fg, hg⟩ := z_g14 hE
  obtain ⟨h1, E1, hE1⟩ := z_shape hE 0
  obtain ⟨fx1, hx1, hx11, hx17, hx114, hx121⟩ := z_x0 hE1
  refine ⟨h1, ⟨kq_59, rfl, rfl, ?_⟩, hE1⟩
  refine mm_E.s rfl rfl rfl (fun _ => rfl) ?_
  refine mm_E.gf rfl rfl rfl hx hx14 ?_
  refine mm_E.s rfl rfl rfl (fun _ => rfl) ?_
  refine mm_E.s rfl rfl rfl (fun _ => rfl) ?_
  refine mm_E.s rfl rfl rfl (fun _ => rfl) ?_
  refine mm_E.s rfl rfl rfl (fun _ => rfl) ?_
  refine mm_E.iv rfl rfl rfl rfl hca rfl (z_size0 hE _) ?_
  refine mm_E.s rfl rfl rfl (fun _ => rfl) ?_
  refine mm_E.s rfl rfl rfl (fun _ => rfl) ?_
  refine mm_E.iv rfl rfl rfl rfl hca rfl (z_size0 hE _) ?_
  refine mm_E.iv rfl rfl rfl rfl hg rfl E1 ?_
  refine mm_E.s rfl rfl rfl (fun _ => rfl) ?_
  refine mm_E.s rfl rfl rfl (fun _ => rfl) ?_
  refine mm_E.s rfl rfl rfl (fun _ => rfl) ?_
  refine mm_E.s rfl rfl rfl (fun _ => rfl) ?_
  refine mm_E.s rfl rfl rfl (fun _ => rfl) ?_
  refine mm_E.iv rfl rfl rfl rfl hx1 rfl (z_wb0 hE1 _ _ _) ?_
  exact mm_E.ret rfl rfl rfl

theorem z_lb1 {h : mm_H} {ro co : Int32} {mi : Int64} {ki : Int32} (hE : x_e0 h ro co mi ki) (k : Int32) : ∃ h', mm_EC kM 59 [.ref 0, .ref 7, .int k] h (none, h') ∧ x_e0 h' 0 0 mi ki := by
  obtain ⟨fx, hx, hx1, hx7, hx14, hx21⟩ := z_x0 hE
  obtain ⟨fa, hca⟩ := z_c1 hE
  obtain ⟨fb, hcb⟩ := z_c7 hE
  obtain ⟨fg, hg⟩ := z_g14 hE
  obtain ⟨h1, E1, hE1⟩ := z_shape hE 0
  obtain ⟨fx1, hx1, hx11, hx17, hx114, hx121⟩ := z_x0 hE1
  refine ⟨h1, ⟨kq_59, rfl, rfl, ?_⟩, hE1⟩
  refine mm_E.s rfl rfl rfl (fun _ => rfl) ?_
  refine mm_E.gf rfl rfl rfl hx hx14 ?_
  refine mm_E.s rfl rfl rfl (fun _ => rfl) ?_
  refine mm_E.s rfl rfl rfl (fun _ => rfl) ?_
  refine mm_E.s rfl rfl rfl (fun _ => rfl) ?_
  refine mm_E.s rfl rfl rfl (fun _ => rfl) ?_
  refine mm_E.iv rfl rfl rfl rfl hcb rfl (z_size1 hE _) ?_
  refine mm_E.s rfl rfl rfl (fun _ => rfl) ?_
  refine mm_E.s rfl rfl rfl (fun _ => rfl) ?_
  refine mm_E.iv rfl rfl rfl rfl hcb rfl (z_size1 hE _) ?_
  refine mm_E.iv rfl rfl rfl rfl hg rfl E1 ?_
  refine mm_E.s rfl rfl rfl (fun _ => rfl) ?_
  refine mm_E.s rfl rfl rfl (fun _ => rfl) ?_
  refine mm_E.s rfl rfl rfl (fun _ => rfl) ?_
  refine mm_E.s rfl rfl rfl (fun _ => rfl) ?_
  refine mm_E.s rfl rfl rfl (fun _ => rfl) ?_
  refine mm_E.iv rfl rfl rfl rfl hx1 rfl (z_wb1 hE1 _ _ _) ?_
  exact mm_E.ret rfl rfl rfl

theorem z_br0 {h : mm_H} {ro co : Int32} {mi : Int64} {ki : Int32} (hE : x_e0 h ro co mi ki) (k p : Int32) : ∃ h', mm_EC kM 58 [.ref 0, .ref 1, .int k, .int p] h (some (.int 0), h') ∧ x_e0 h' 0 0 1 ki := by
  obtain ⟨fx, hx, hx1, hx7, hx14, hx21⟩ := z_x0 hE
  obtain ⟨h1, E1, hE1⟩ := z_lb0 hE k
  obtain ⟨fx', hx', hx1', hx7', hx14', hx21'⟩ := z_x0 hE1
  obtain ⟨fg1, hg1⟩ := z_g14 hE1
  obtain ⟨h2, E2, hE2⟩ := z_el0 hE1 p
  refine ⟨h2, ⟨kq_58, rfl, rfl, ?_⟩, hE2⟩
  refine mm_E.s rfl rfl rfl (fun _ => rfl) ?_
  refine mm_E.s rfl rfl rfl (fun _ => rfl) ?_
  refine mm_E.s rfl rfl rfl (fun _ => rfl) ?_
  refine mm_E.iv rfl rfl rfl rfl hx rfl E1 ?_
  refine mm_E.s rfl rfl rfl (fun _ => rfl) ?_
  refine mm_E.gf rfl rfl rfl hx' hx14' ?_
  refine mm_E.s rfl rfl rfl (fun _ => rfl) ?_
  refine mm_E.s rfl rfl rfl (fun _ => rfl) ?_
  refine mm_E.iv rfl rfl rfl rfl hg1 rfl E2 ?_
  exact mm_E.ret rfl rfl rfl

theorem z_br1 {h : mm_H} {ro co : Int32} {mi : Int64} {ki : Int32} (hE : x_e0 h ro co mi ki) (k p : Int32) : ∃ h', mm_EC kM 58 [.ref 0, .ref 7, .int k, .int p] h (some (.int 0), h') ∧ x_e0 h' 0 0 1 ki := by
  obtain ⟨fx, hx, hx1, hx7, hx14, hx21⟩ := z_x0 hE
  obtain ⟨h1, E1, hE1⟩ := z_lb1 hE k
  obtain ⟨fx', hx', hx1', hx7', hx14', hx21'⟩ := z_x0 hE1
  obtain ⟨fg1, hg1⟩ := z_g14 hE1
  obtain ⟨h2, E2, hE2⟩ := z_el0 hE1 p
  refine ⟨h2, ⟨kq_58, rfl, rfl, ?_⟩, hE2⟩
  refine mm_E.s rfl rfl rfl (fun _ => rfl) ?_
  refine mm_E.s rfl rfl rfl (fun _ => rfl) ?_
  refine mm_E.s rfl rfl rfl (fun _ => rfl) ?_
  refine mm_E.iv rfl rfl rfl rfl hx rfl E1 ?_
  refine mm_E.s rfl rfl rfl (fun _ => rfl) ?_
  refine mm_E.gf rfl rfl rfl hx' hx14' ?_
  refine mm_E.s rfl rfl rfl (fun _ => rfl) ?_
  refine mm_E.s rfl rfl rfl (fun _ => rfl) ?_
  refine mm_E.iv rfl rfl rfl rfl hg1 rfl E2 ?_
  exact mm_E.ret rfl rfl rfl

theorem x_k4 {k : Int32} : (k < 0 ∨ 3 < k) ↔ (k < 0 ∨ 4 ≤ k) := ⟨fun h => h.imp id x_34, fun h => h.imp id x_43⟩
theorem z_ih {h : mm_H} {ro co : Int32} {mi : Int64} {ki : Int32} (hE : x_e0 h ro co mi ki) (c k p : Int32) : ∃ h', mm_EC kM 57 [.ref 0, .int c, .int k, .int p] h (some (.int (if (c = 0 ∨ c = 1) ∧ ¬ k < 0 ∧ ¬ 3 < k then 0 else -1)), h') ∧ x_em h' 0 0 0 := by
  obtain ⟨fx, hx, hx1, hx7, hx14, hx21⟩ := z_x0 hE
  obtain ⟨fa, hca⟩ := z_c1 hE
  obtain ⟨fb, hcb⟩ := z_c7 hE
  by_cases hc : c = 0 ∨ c = 1
  · by_cases hk : k < 0 ∨ 3 < k
    · rw [if_neg (fun q => hk.elim q.2.1 q.2.2)]
      refine ⟨h, ⟨kq_57, rfl, rfl, ?_⟩, x_e0_em hE⟩
      rcases hc with rfl | rfl
      · skip
        refine mm_E.s rfl rfl rfl (fun _ => rfl) ?_
        refine mm_E.s rfl rfl rfl (fun _ => rfl) ?_
        refine mm_E.iv rfl rfl rfl rfl hx rfl (z_cx0 hE) ?_
        refine mm_E.s rfl rfl rfl (fun _ => rfl) ?_
        refine mm_E.s rfl rfl rfl (fun _ => rfl) ?_
        refine mm_E.s rfl rfl rfl (fun _ => rfl) ?_
        refine mm_E.s rfl rfl rfl (fun _ => rfl) ?_
        refine mm_E.ic rfl rfl rfl rfl rfl (z_isD0 (x_k4.mp hk)) ?_
        refine mm_E.s rfl rfl rfl (fun _ => rfl) ?_
        refine mm_E.s rfl rfl rfl (fun _ => rfl) ?_
        exact mm_E.ret rfl rfl rfl
      · skip
        refine mm_E.s rfl rfl rfl (fun _ => rfl) ?_
        refine mm_E.s rfl rfl rfl (fun _ => rfl) ?_
        refine mm_E.iv rfl rfl rfl rfl hx rfl (z_cx1 hE) ?_
        refine mm_E.s rfl rfl rfl (fun _ => rfl) ?_
        refine mm_E.s rfl rfl rfl (fun _ => rfl) ?_
        refine mm_E.s rfl rfl rfl (fun _ => rfl) ?_
        refine mm_E.s rfl rfl rfl (fun _ => rfl) ?_
        refine mm_E.ic rfl rfl rfl rfl rfl (z_isD0 (x_k4.mp hk)) ?_
        refine mm_E.s rfl rfl rfl (fun _ => rfl) ?_
        refine mm_E.s rfl rfl rfl (fun _ => rfl) ?_
        exact mm_E.ret rfl rfl rfl
    · have k0 : ¬ k < 0 := fun q => hk (Or.inl q)
      have k3 : ¬ 3 < k := fun q => hk (Or.inr q)
      have k4 : ¬ 4 ≤ k := fun q => k3 (x_43 q)
      rw [if_pos ⟨hc, k0, k3⟩]
      rcases hc with rfl | rfl
      · obtain ⟨h1, E1, hE1⟩ := z_br0 hE k p
        obtain ⟨fx', hx', hx1', hx7', hx14', hx21'⟩ := z_x0 hE1
        obtain ⟨h2, E2, hE2⟩ := z_br0 hE1 (k + 1) p
        refine ⟨h2, ⟨kq_57, rfl, rfl, ?_⟩, x_e0_em hE2⟩
        refine mm_E.s rfl rfl rfl (fun _ => rfl) ?_
        refine mm_E.s rfl rfl rfl (fun _ => rfl) ?_
        refine mm_E.iv rfl rfl rfl rfl hx rfl (z_cx0 hE) ?_
        refine mm_E.s rfl rfl rfl (fun _ => rfl) ?_
        refine mm_E.s rfl rfl rfl (fun _ => rfl) ?_
        refine mm_E.s rfl rfl rfl (fun _ => rfl) ?_
        refine mm_E.s rfl rfl rfl (fun _ => rfl) ?_
        refine mm_E.ic rfl rfl rfl rfl rfl (z_isD1 k0 k4) ?_
        refine mm_E.s rfl rfl rfl (fun _ => rfl) ?_
        refine mm_E.s rfl rfl rfl (fun _ => rfl) ?_
        refine mm_E.s rfl rfl rfl (fun _ => rfl) ?_
        refine mm_E.iv rfl rfl rfl rfl hca rfl (z_size0 hE _) ?_
        refine mm_E.s rfl rfl rfl (fun _ => rfl) ?_
        refine mm_E.s rfl rfl rfl (fun _ => rfl) ?_
        refine mm_E.s rfl rfl rfl (fun _ => rfl) ?_
        refine mm_E.s rfl rfl rfl (fun _ => rfl) ?_
        refine mm_E.iv rfl rfl rfl rfl hx rfl E1 ?_
        refine mm_E.s rfl rfl rfl (fun _ => rfl) ?_
        refine mm_E.s rfl rfl rfl (fun _ => rfl) ?_
        refine mm_E.s rfl rfl rfl (fun _ => rfl) ?_
        refine mm_E.s rfl rfl rfl (fun _ => rfl) ?_
        refine mm_E.s rfl rfl rfl (fun _ => rfl) ?_
        refine mm_E.s rfl rfl rfl (fun _ => rfl) ?_
        refine mm_E.s rfl rfl rfl (fun _ => rfl) ?_
        refine mm_E.iv rfl rfl rfl rfl hx' rfl E2 ?_
        refine mm_E.s rfl rfl rfl (fun _ => rfl) ?_
        exact mm_E.ret rfl rfl rfl
      · obtain ⟨h1, E1, hE1⟩ := z_br1 hE k p
        obtain ⟨fx', hx', hx1', hx7', hx14', hx21'⟩ := z_x0 hE1
        obtain ⟨h2, E2, hE2⟩ := z_br1 hE1 (k + 1) p
        refine ⟨h2, ⟨kq_57, rfl, rfl, ?_⟩, x_e0_em hE2⟩
        refine mm_E.s rfl rfl rfl (fun _ => rfl) ?_
        refine mm_E.s rfl rfl rfl (fun _ => rfl) ?_
        refine mm_E.iv rfl rfl rfl rfl hx rfl (z_cx1 hE) ?_
        refine mm_E.s rfl rfl rfl (fun _ => rfl) ?_
        refine mm_E.s rfl rfl rfl (fun _ => rfl) ?_
        refine mm_E.s rfl rfl rfl (fun _ => rfl) ?_
        refine mm_E.s rfl rfl rfl (fun _ => rfl) ?_
        refine mm_E.ic rfl rfl rfl rfl rfl (z_isD1 k0 k4) ?_
        refine mm_E.s rfl rfl rfl (fun _ => rfl) ?_
        refine mm_E.s rfl rfl rfl (fun _ => rfl) ?_
        refine mm_E.s rfl rfl rfl (fun _ => rfl) ?_
        refine mm_E.iv rfl rfl rfl rfl hcb rfl (z_size1 hE _) ?_
        refine mm_E.s rfl rfl rfl (fun _ => rfl) ?_
        refine mm_E.s rfl rfl rfl (fun _ => rfl) ?_
        refine mm_E.s rfl rfl rfl (fun _ => rfl) ?_
        refine mm_E.s rfl rfl rfl (fun _ => rfl) ?_
        refine mm_E.iv rfl rfl rfl rfl hx rfl E1 ?_
        refine mm_E.s rfl rfl rfl (fun _ => rfl) ?_
        refine mm_E.s rfl rfl rfl (fun _ => rfl) ?_
        refine mm_E.s rfl rfl rfl (fun _ => rfl) ?_
        refine mm_E.s rfl rfl rfl (fun _ => rfl) ?_
        refine mm_E.s rfl rfl rfl (fun _ => rfl) ?_
        refine mm_E.s rfl rfl rfl (fun _ => rfl) ?_
        refine mm_E.s rfl rfl rfl (fun _ => rfl) ?_
        refine mm_E.iv rfl rfl rfl rfl hx' rfl E2 ?_
        refine mm_E.s rfl rfl rfl (fun _ => rfl) ?_
        exact mm_E.ret rfl rfl rfl
  · rw [if_neg (fun q => hc q.1)]
    refine ⟨h, ⟨kq_57, rfl, rfl, ?_⟩, x_e0_em hE⟩
    refine mm_E.s rfl rfl rfl (fun _ => rfl) ?_
    refine mm_E.s rfl rfl rfl (fun _ => rfl) ?_
    refine mm_E.iv rfl rfl rfl rfl hx rfl (z_cxN hE hc) ?_
    refine mm_E.s rfl rfl rfl (fun _ => rfl) ?_
    refine mm_E.s rfl rfl rfl (fun _ => rfl) ?_
    refine mm_E.s rfl rfl rfl (fun _ => rfl) ?_
    refine mm_E.s rfl rfl rfl (fun _ => rfl) ?_
    exact mm_E.ret rfl rfl rfl

theorem z_betti {h : mm_H} {ro co : Int32} {mi : Int64} {ki : Int32} (hE : x_e0 h ro co mi ki) (c k : Int32) : ∃ h', mm_EC kM 40 [.ref 0, .int c, .int k] h (some (.int (if (c = 0 ∨ c = 1) ∧ ¬ k < 0 ∧ ¬ 3 < k then 0 else -1)), h') ∧ x_em h' 0 0 0 := by
  obtain ⟨fx, hx, hx1, hx7, hx14, hx21⟩ := z_x0 hE
  obtain ⟨h1, E1, hE1⟩ := z_ih hE c k 2147483647
  refine ⟨h1, ⟨kq_40, rfl, rfl, ?_⟩, hE1⟩
  refine mm_E.s rfl rfl rfl (fun _ => rfl) ?_
  refine mm_E.s rfl rfl rfl (fun _ => rfl) ?_
  refine mm_E.s rfl rfl rfl (fun _ => rfl) ?_
  refine mm_E.s rfl rfl rfl (fun _ => rfl) ?_
  refine mm_E.iv rfl rfl rfl rfl hx rfl E1 ?_
  exact mm_E.ret rfl rfl rfl

theorem z_bm {h : mm_H} {ro co : Int32} {mi : Int64} {ki : Int32} (hE : x_e0 h ro co mi ki) (c k p : Int32) : ∃ h', mm_EC kM 42 [.ref 0, .int c, .int k, .int p] h (some (.int (if (c = 0 ∨ c = 1) ∧ (¬ k < 0 ∧ ¬ 3 < k) ∧ x_pr p then 0 else -1)), h') ∧ x_em h' 0 0 0 := by
  obtain ⟨fx, hx, hx1, hx7, hx14, hx21⟩ := z_x0 hE
  by_cases hp : x_pr p
  · obtain ⟨h1, E1, hE1⟩ := z_ih hE c k p
    have ev : (if (c = 0 ∨ c = 1) ∧ (¬ k < 0 ∧ ¬ 3 < k) ∧ x_pr p then (0 : Int32) else -1) = (if (c = 0 ∨ c = 1) ∧ ¬ k < 0 ∧ ¬ 3 < k then 0 else -1) := by
      by_cases hq : (c = 0 ∨ c = 1) ∧ ¬ k < 0 ∧ ¬ 3 < k
      · rw [if_pos hq, if_pos ⟨hq.1, hq.2, hp⟩]
      · rw [if_neg hq, if_neg (fun q => hq ⟨q.1, q.2.1⟩)]
    rw [ev]
    refine ⟨h1, ⟨kq_42, rfl, rfl, ?_⟩, hE1⟩
    rcases hp with rfl | rfl | rfl | rfl | rfl | rfl
    · skip
      refine mm_E.s rfl rfl rfl (fun _ => rfl) ?_
      refine mm_E.s rfl rfl rfl (fun _ => rfl) ?_
      refine mm_E.s rfl rfl rfl (fun _ => rfl) ?_
      refine mm_E.s rfl rfl rfl (fun _ => rfl) ?_
      refine mm_E.s rfl rfl rfl (fun _ => rfl) ?_
      refine mm_E.s rfl rfl rfl (fun _ => rfl) ?_
      refine mm_E.s rfl rfl rfl (fun _ => rfl) ?_
      refine mm_E.iv rfl rfl rfl rfl hx rfl E1 ?_
      exact mm_E.ret rfl rfl rfl
    · skip
      refine mm_E.s rfl rfl rfl (fun _ => rfl) ?_
      refine mm_E.s rfl rfl rfl (fun _ => rfl) ?_
      refine mm_E.s rfl rfl rfl (fun _ => rfl) ?_
      refine mm_E.s rfl rfl rfl (fun _ => rfl) ?_
      refine mm_E.s rfl rfl rfl (fun _ => rfl) ?_
      refine mm_E.s rfl rfl rfl (fun _ => rfl) ?_
      refine mm_E.s rfl rfl rfl (fun _ => rfl) ?_
      refine mm_E.s rfl rfl rfl (fun _ => rfl) ?_
      refine mm_E.s rfl rfl rfl (fun _ => rfl) ?_
      refine mm_E.s rfl rfl rfl (fun _ => rfl) ?_
      refine mm_E.iv rfl rfl rfl rfl hx rfl E1 ?_
      exact mm_E.ret rfl rfl rfl
    · skip
      refine mm_E.s rfl rfl rfl (fun _ => rfl) ?_
      refine mm_E.s rfl rfl rfl (fun _ => rfl) ?_
      refine mm_E.s rfl rfl rfl (fun _ => rfl) ?_
      refine mm_E.s rfl rfl rfl (fun _ => rfl) ?_
      refine mm_E.s rfl rfl rfl (fun _ => rfl) ?_
      refine mm_E.s rfl rfl rfl (fun _ => rfl) ?_
      refine mm_E.s rfl rfl rfl (fun _ => rfl) ?_
      refine mm_E.s rfl rfl rfl (fun _ => rfl) ?_
      refine mm_E.s rfl rfl rfl (fun _ => rfl) ?_
      refine mm_E.s rfl rfl rfl (fun _ => rfl) ?_
      refine mm_E.s rfl rfl rfl (fun _ => rfl) ?_
      refine mm_E.s rfl rfl rfl (fun _ => rfl) ?_
      refine mm_E.s rfl rfl rfl (fun _ => rfl) ?_
      refine mm_E.iv rfl rfl rfl rfl hx rfl E1 ?_
      exact mm_E.ret rfl rfl rfl
    · skip
      refine mm_E.s rfl rfl rfl (fun _ => rfl) ?_
      refine mm_E.s rfl rfl rfl (fun _ => rfl) ?_
      refine mm_E.s rfl rfl rfl (fun _ => rfl) ?_
      refine mm_E.s rfl rfl rfl (fun _ => rfl) ?_
      refine mm_E.s rfl rfl rfl (fun _ => rfl) ?_
      refine mm_E.s rfl rfl rfl (fun _ => rfl) ?_
      refine mm_E.s rfl rfl rfl (fun _ => rfl) ?_
      refine mm_E.s rfl rfl rfl (fun _ => rfl) ?_
      refine mm_E.s rfl rfl rfl (fun _ => rfl) ?_
      refine mm_E.s rfl rfl rfl (fun _ => rfl) ?_
      refine mm_E.s rfl rfl rfl (fun _ => rfl) ?_
      refine mm_E.s rfl rfl rfl (fun _ => rfl) ?_
      refine mm_E.s rfl rfl rfl (fun _ => rfl) ?_
      refine mm_E.s rfl rfl rfl (fun _ => rfl) ?_
      refine mm_E.s rfl rfl rfl (fun _ => rfl) ?_
      refine mm_E.s rfl rfl rfl (fun _ => rfl) ?_
      refine mm_E.iv rfl rfl rfl rfl hx rfl E1 ?_
      exact mm_E.ret rfl rfl rfl
    · skip
      refine mm_E.s rfl rfl rfl (fun _ => rfl) ?_
      refine mm_E.s rfl rfl rfl (fun _ => rfl) ?_
      refine mm_E.s rfl rfl rfl (fun _ => rfl) ?_
      refine mm_E.s rfl rfl rfl (fun _ => rfl) ?_
      refine mm_E.s rfl rfl rfl (fun _ => rfl) ?_
      refine mm_E.s rfl rfl rfl (fun _ => rfl) ?_
      refine mm_E.s rfl rfl rfl (fun _ => rfl) ?_
      refine mm_E.s rfl rfl rfl (fun _ => rfl) ?_
      refine mm_E.s rfl rfl rfl (fun _ => rfl) ?_
      refine mm_E.s rfl rfl rfl (fun _ => rfl) ?_
      refine mm_E.s rfl rfl rfl (fun _ => rfl) ?_
      refine mm_E.s rfl rfl rfl (fun _ => rfl) ?_
      refine mm_E.s rfl rfl rfl (fun _ => rfl) ?_
      refine mm_E.s rfl rfl rfl (fun _ => rfl) ?_
      refine mm_E.s rfl rfl rfl (fun _ => rfl) ?_
      refine mm_E.s rfl rfl rfl (fun _ => rfl) ?_
      refine mm_E.s rfl rfl rfl (fun _ => rfl) ?_
      refine mm_E.s rfl rfl rfl (fun _ => rfl) ?_
      refine mm_E.s rfl rfl rfl (fun _ => rfl) ?_
      refine mm_E.iv rfl rfl rfl rfl hx rfl E1 ?_
      exact mm_E.ret rfl rfl rfl
    · skip
      refine mm_E.s rfl rfl rfl (fun _ => rfl) ?_
      refine mm_E.s rfl rfl rfl (fun _ => rfl) ?_
      refine mm_E.s rfl rfl rfl (fun _ => rfl) ?_
      refine mm_E.s rfl rfl rfl (fun _ => rfl) ?_
      refine mm_E.s rfl rfl rfl (fun _ => rfl) ?_
      refine mm_E.s rfl rfl rfl (fun _ => rfl) ?_
      refine mm_E.s rfl rfl rfl (fun _ => rfl) ?_
      refine mm_E.s rfl rfl rfl (fun _ => rfl) ?_
      refine mm_E.s rfl rfl rfl (fun _ => rfl) ?_
      refine mm_E.s rfl rfl rfl (fun _ => rfl) ?_
      refine mm_E.s rfl rfl rfl (fun _ => rfl) ?_
      refine mm_E.s rfl rfl rfl (fun _ => rfl) ?_
      refine mm_E.s rfl rfl rfl (fun _ => rfl) ?_
      refine mm_E.s rfl rfl rfl (fun _ => rfl) ?_
      refine mm_E.s rfl rfl rfl (fun _ => rfl) ?_
      refine mm_E.s rfl rfl rfl (fun _ => rfl) ?_
      refine mm_E.s rfl rfl rfl (fun _ => rfl) ?_
      refine mm_E.s rfl rfl rfl (fun _ => rfl) ?_
      refine mm_E.s rfl rfl rfl (fun _ => rfl) ?_
      refine mm_E.s rfl rfl rfl (fun _ => rfl) ?_
      refine mm_E.s rfl rfl rfl (fun _ => rfl) ?_
      refine mm_E.s rfl rfl rfl (fun _ => rfl) ?_
      refine mm_E.iv rfl rfl rfl rfl hx rfl E1 ?_
      exact mm_E.ret rfl rfl rfl
  · rw [if_neg (fun q => hp q.2.2)]
    have p2 : ¬ p = 2 := fun q => hp (Or.inl q)
    have p3 : ¬ p = 3 := fun q => hp (Or.inr (Or.inl q))
    have p5 : ¬ p = 5 := fun q => hp (Or.inr (Or.inr (Or.inl q)))
    have p7 : ¬ p = 7 := fun q => hp (Or.inr (Or.inr (Or.inr (Or.inl q))))
    have p11 : ¬ p = 11 := fun q => hp (Or.inr (Or.inr (Or.inr (Or.inr (Or.inl q)))))
    have p13 : ¬ p = 13 := fun q => hp (Or.inr (Or.inr (Or.inr (Or.inr (Or.inr q)))))
    refine ⟨h, ⟨kq_42, rfl, rfl, ?_⟩, x_e0_em hE⟩
    refine mm_E.s rfl rfl rfl (fun _ => rfl) ?_
    refine mm_E.s rfl rfl rfl (fun _ => rfl) ?_
    refine mm_E.s rfl rfl rfl (fun _ => if_neg p2) ?_
    refine mm_E.s rfl rfl rfl (fun _ => rfl) ?_
    refine mm_E.s rfl rfl rfl (fun _ => rfl) ?_
    refine mm_E.s rfl rfl rfl (fun _ => if_neg p3) ?_
    refine mm_E.s rfl rfl rfl (fun _ => rfl) ?_
    refine mm_E.s rfl rfl rfl (fun _ => rfl) ?_
    refine mm_E.s rfl rfl rfl (fun _ => if_neg p5) ?_
    refine mm_E.s rfl rfl rfl (fun _ => rfl) ?_
    refine mm_E.s rfl rfl rfl (fun _ => rfl) ?_
    refine mm_E.s rfl rfl rfl (fun _ => if_neg p7) ?_
    refine mm_E.s rfl rfl rfl (fun _ => rfl) ?_
    refine mm_E.s rfl rfl rfl (fun _ => rfl) ?_
    refine mm_E.s rfl rfl rfl (fun _ => if_neg p11) ?_
    refine mm_E.s rfl rfl rfl (fun _ => rfl) ?_
    refine mm_E.s rfl rfl rfl (fun _ => rfl) ?_
    refine mm_E.s rfl rfl rfl (fun _ => if_neg p13) ?_
    refine mm_E.s rfl rfl rfl (fun _ => rfl) ?_
    exact mm_E.ret rfl rfl rfl

