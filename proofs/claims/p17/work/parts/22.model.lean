theorem y_z {h : mm_H} {ro co di : Int32} (hE : x_em h ro co di) : ∃ (tr : Int32) (has : Nat → Int32), mm_nth h 25 = some (x_mo ro co di tr) ∧ mm_nth h 26 = some (x_ha has) ∧ x_no has := by
  obtain ⟨tr, has, kept, f, cc, sp, e1, e2, e3, mat, work, dv, hO, hH, hz, h27, h28, h29, h30, h31, h32, h33, h34, h35, h36⟩ := hE
  exact ⟨tr, has, hO, hH, hz⟩
theorem y_col {h : mm_H} {ro co di : Int32} (hE : x_em h ro co di) {tr : Int32} (c : Int32) (hO : mm_nth h 25 = some (x_mo ro co di tr)) : x_em (h.set 25 (x_mo ro c di tr)) ro c di := by
  obtain ⟨tr', has, kept, f, cc, sp, e1, e2, e3, mat, work, dv, hO', hH, hz, h27, h28, h29, h30, h31, h32, h33, h34, h35, h36⟩ := hE
  exact ⟨tr, has, kept, f, cc, sp, e1, e2, e3, mat, work, dv, (by exact mm_nth_set (by first | exact mm_nth_lt hO | (simp only [List.length_set]; exact mm_nth_lt hO))), (by rw [mm_nth_set_ne (by decide)]; exact hH), hz, (by rw [mm_nth_set_ne (by decide)]; exact h27), (by rw [mm_nth_set_ne (by decide)]; exact h28), (by rw [mm_nth_set_ne (by decide)]; exact h29), (by rw [mm_nth_set_ne (by decide)]; exact h30), (by rw [mm_nth_set_ne (by decide)]; exact h31), (by rw [mm_nth_set_ne (by decide)]; exact h32), (by rw [mm_nth_set_ne (by decide)]; exact h33), (by rw [mm_nth_set_ne (by decide)]; exact h34), (by rw [mm_nth_set_ne (by decide)]; exact h35), (by rw [mm_nth_set_ne (by decide)]; exact h36)⟩
theorem y_order {h : mm_H} {ro co di : Int32} (hE : x_em h ro co di) (c k : Int32) : ∃ h', mm_EC kM 101 [.ref 25, .int c, .int k] h (some (.int (if (c = 0 ∨ c = 1) ∧ ¬ k < 0 ∧ ¬ 3 < k then 1 else -1)), h') := by
  by_cases hc : c = 0 ∨ c = 1
  · by_cases hk : k < 0 ∨ 3 < k
    · rw [if_neg (fun q => hk.elim q.2.1 q.2.2)]
      refine ⟨h, kq_101, rfl, rfl, ?_⟩
      refine mm_E.s rfl rfl rfl (fun _ => rfl) ?_
      refine mm_E.ic rfl rfl rfl rfl rfl (x_isC1 hc) ?_
      refine mm_E.s rfl rfl rfl (fun _ => rfl) ?_
      refine mm_E.s rfl rfl rfl (fun _ => rfl) ?_
      refine mm_E.ic rfl rfl rfl rfl rfl (x_isD0 hk) ?_
      refine mm_E.s rfl rfl rfl (fun _ => rfl) ?_
      refine mm_E.s rfl rfl rfl (fun _ => rfl) ?_
      exact mm_E.ret rfl rfl rfl
    · have k0 : ¬ k < 0 := fun q => hk (Or.inl q)
      have k3 : ¬ 3 < k := fun q => hk (Or.inr q)
      rw [if_pos ⟨hc, k0, k3⟩]
      obtain ⟨n, hn, rfl⟩ := x_c01 hc
      obtain ⟨tr, has, hO, hH, hz⟩ := y_z hE
      obtain ⟨h1, E1, hE1⟩ := y_bof hE hn (k + 1)
      obtain ⟨tr1, hO1⟩ := y_o hE1
      obtain ⟨h2, E2, hE2⟩ := y_vol hE1
      obtain ⟨tr2, has2, hO2, hH2, hz2⟩ := y_z hE2
      have hE3 := y_col hE2 (0 + 1) hO2
      obtain ⟨tr3, hO3⟩ := y_o hE3
      obtain ⟨h4, E4, hE4⟩ := y_vol hE3
      obtain ⟨tr4, hO4⟩ := y_o hE4
      refine ⟨h4, kq_101, rfl, rfl, ?_⟩
      refine mm_E.s rfl rfl rfl (fun _ => rfl) ?_
      refine mm_E.ic rfl rfl rfl rfl rfl (x_isC1 hc) ?_
      refine mm_E.s rfl rfl rfl (fun _ => rfl) ?_
      refine mm_E.s rfl rfl rfl (fun _ => rfl) ?_
      refine mm_E.ic rfl rfl rfl rfl rfl (x_isD1 k0 k3) ?_
      refine mm_E.s rfl rfl rfl (fun _ => rfl) ?_
      refine mm_E.s rfl rfl rfl (fun _ => rfl) ?_
      refine mm_E.s rfl rfl rfl (fun _ => rfl) ?_
      refine mm_E.s rfl rfl rfl (fun _ => rfl) ?_
      refine mm_E.iv rfl rfl rfl rfl hO rfl (x_isCy0 hO hH hz hn k) ?_
      refine mm_E.s rfl rfl rfl (fun _ => rfl) ?_
      refine mm_E.s rfl rfl rfl (fun _ => rfl) ?_
      refine mm_E.s rfl rfl rfl (fun _ => rfl) ?_
      refine mm_E.s rfl rfl rfl (fun _ => rfl) ?_
      refine mm_E.s rfl rfl rfl (fun _ => rfl) ?_
      refine mm_E.s rfl rfl rfl (fun _ => rfl) ?_
      refine mm_E.iv rfl rfl rfl rfl hO rfl E1 ?_
      refine mm_E.s rfl rfl rfl (fun _ => rfl) ?_
      refine mm_E.iv rfl rfl rfl rfl hO1 rfl E2 ?_
      refine mm_E.s rfl rfl rfl (fun _ => rfl) ?_
      refine mm_E.s rfl rfl rfl (fun _ => rfl) ?_
      refine mm_E.gf rfl rfl rfl hO2 rfl ?_
      refine mm_E.s rfl rfl rfl (fun _ => rfl) ?_
      refine mm_E.s rfl rfl rfl (fun _ => rfl) ?_
      refine mm_E.s rfl rfl rfl (fun _ => rfl) ?_
      refine mm_E.s rfl rfl rfl (fun _ => rfl) ?_
      refine mm_E.s rfl rfl rfl (fun _ => rfl) ?_
      refine mm_E.loop (fun t => [some (.ref 25), some (.int (nI n)), some (.int k), some (.long 1), none, some (.int 0), some (.int 0), some (.int (nI (t + 1))), none]) (fun _ => h2) 255 ?_ ?_
      · skip
        refine mm_E.s rfl rfl rfl (fun _ => rfl) ?_
        refine mm_E.s rfl rfl rfl (fun _ => rfl) ?_
        refine mm_E.s rfl rfl rfl (fun _ => rfl) ?_
        refine mm_E.s rfl rfl rfl (fun _ => rfl) ?_
        refine mm_E.s rfl rfl rfl (fun _ => rfl) ?_
        refine mm_E.gf rfl rfl rfl hO2 rfl ?_
        refine mm_E.s rfl rfl rfl (fun _ => rfl) ?_
        refine mm_E.s rfl rfl rfl (fun _ => rfl) ?_
        refine mm_E.pfi rfl rfl rfl hO2 rfl (mm_put_some _ _ _ (mm_nth_lt hO2)) ?_
        refine mm_E.s rfl rfl rfl (fun _ => rfl) ?_
        refine mm_E.iv rfl rfl rfl rfl hO3 rfl E4 ?_
        refine mm_E.s rfl rfl rfl (fun _ => rfl) ?_
        refine mm_E.s rfl rfl rfl (fun _ => rfl) ?_
        refine mm_E.gf rfl rfl rfl hO4 rfl ?_
        refine mm_E.s rfl rfl rfl (fun _ => rfl) ?_
        refine mm_E.s rfl rfl rfl (fun _ => rfl) ?_
        refine mm_E.s rfl rfl rfl (fun _ => rfl) ?_
        refine mm_E.s rfl rfl rfl (fun _ => rfl) ?_
        refine mm_E.s rfl rfl rfl (fun _ => rfl) ?_
        refine mm_E.s rfl rfl rfl (fun _ => rfl) ?_
        exact mm_E.ret rfl rfl rfl
      · intro t ht ih
        refine mm_E.s rfl rfl rfl (fun _ => rfl) ?_
        refine mm_E.s rfl rfl rfl (fun _ => rfl) ?_
        refine mm_E.s rfl rfl rfl (fun _ => if_neg (nI_ge (a := t + 1) (b := 256) (by omega) (by decide))) ?_
        refine mm_E.s rfl rfl rfl (fun _ => rfl) ?_
        refine mm_E.gf rfl rfl rfl hO2 rfl ?_
        refine mm_E.s rfl rfl rfl (fun _ => rfl) ?_
        refine mm_E.s rfl rfl rfl (fun _ => rfl) ?_
        refine mm_E.s rfl rfl rfl (fun _ => rfl) ?_
        refine mm_E.s rfl rfl rfl (fun _ => rfl) ?_
        refine mm_E.s rfl rfl rfl (fun _ => rfl) ?_
        refine mm_E.ti _ (x_ix n (t + 1)) ?_
        refine mm_E.za rfl rfl hH2 (mm_bd (by omega) (by decide)) (v := 0) (by rw [mm_cl (by omega)]; exact hz2 _ (by omega)) ?_
        refine mm_E.s rfl rfl rfl (fun _ => rfl) ?_
        refine mm_E.s rfl rfl rfl (fun _ => rfl) ?_
        refine mm_E.s rfl rfl rfl (fun _ => rfl) ?_
        rw [← nI_1] at ih
        exact ih
  · rw [if_neg (fun q => hc q.1)]
    refine ⟨h, kq_101, rfl, rfl, ?_⟩
    refine mm_E.s rfl rfl rfl (fun _ => rfl) ?_
    refine mm_E.ic rfl rfl rfl rfl rfl (x_isC0 hc) ?_
    refine mm_E.s rfl rfl rfl (fun _ => rfl) ?_
    refine mm_E.s rfl rfl rfl (fun _ => rfl) ?_
    exact mm_E.ret rfl rfl rfl

abbrev x_pr (p : Int32) : Prop := p = 2 ∨ p = 3 ∨ p = 5 ∨ p = 7 ∨ p = 11 ∨ p = 13
theorem y_bmA {scr : mm_X} {h : mm_H} {c k p : Int32} {r : Option Value × mm_H} (hp : x_pr p) (hk : mm_E kM scr 88 38 [some (.ref 25), some (.int c), some (.int k), some (.int p), none, none] [.int 1] h r) : mm_E kM scr 88 0 [some (.ref 25), some (.int c), some (.int k), some (.int p), none, none] [] h r := by
  rcases hp with rfl | rfl | rfl | rfl | rfl | rfl
  · skip
    refine mm_E.s rfl rfl rfl (fun _ => rfl) ?_
    refine mm_E.s rfl rfl rfl (fun _ => rfl) ?_
    refine mm_E.s rfl rfl rfl (fun _ => rfl) ?_
    refine mm_E.s rfl rfl rfl (fun _ => rfl) ?_
    refine mm_E.s rfl rfl rfl (fun _ => rfl) ?_
    exact hk
  · skip
    refine mm_E.s rfl rfl rfl (fun _ => rfl) ?_
    refine mm_E.s rfl rfl rfl (fun _ => rfl) ?_
    refine mm_E.s rfl rfl rfl (fun _ => rfl) ?_
    refine mm_E.s rfl rfl rfl (fun _ => rfl) ?_
    refine mm_E.s rfl rfl rfl (fun _ => rfl) ?_
    refine mm_E.s rfl rfl rfl (fun _ => rfl) ?_
    refine mm_E.s rfl rfl rfl (fun _ => rfl) ?_
    refine mm_E.s rfl rfl rfl (fun _ => rfl) ?_
    exact hk
  · skip
    refine mm_E.s rfl rfl rfl (fun _ => rfl) ?_
    refine mm_E.s rfl rfl rfl (fun _ => rfl) ?_
    refine mm_E.s rfl rfl rfl (fun _ => rfl) ?_
    refine mm_E.s rfl rfl rfl (fun _ => rfl) ?_
    refine mm_E.s rfl rfl rfl (fun _ => rfl) ?_
    refine mm_E.s rfl rfl rfl (fun _ => rfl) ?_
    refine mm_E.s rfl rfl rfl (fun _ => rfl) ?_
    refine mm_E.s rfl rfl rfl (fun _ => rfl) ?_
    refine mm_E.s rfl rfl rfl (fun _ => rfl) ?_
    refine mm_E.s rfl rfl rfl (fun _ => rfl) ?_
    refine mm_E.s rfl rfl rfl (fun _ => rfl) ?_
    exact hk
  · skip
    refine mm_E.s rfl rfl rfl (fun _ => rfl) ?_
    refine mm_E.s rfl rfl rfl (fun _ => rfl) ?_
    refine mm_E.s rfl rfl rfl (fun _ => rfl) ?_
    refine mm_E.s rfl rfl rfl (fun _ => rfl) ?_
    refine mm_E.s rfl rfl rfl (fun _ => rfl) ?_
    refine mm_E.s rfl rfl rfl (fun _ => rfl) ?_
    refine mm_E.s rfl rfl rfl (fun _ => rfl) ?_
    refine mm_E.s rfl rfl rfl (fun _ => rfl) ?_
    refine mm_E.s rfl rfl rfl (fun _ => rfl) ?_
    refine mm_E.s rfl rfl rfl (fun _ => rfl) ?_
    refine mm_E.s rfl rfl rfl (fun _ => rfl) ?_
    refine mm_E.s rfl rfl rfl (fun _ => rfl) ?_
    refine mm_E.s rfl rfl rfl (fun _ => rfl) ?_
    refine mm_E.s rfl rfl rfl (fun _ => rfl) ?_
    exact hk
  · skip
    refine mm_E.s rfl rfl rfl (fun _ => rfl) ?_
    refine mm_E.s rfl rfl rfl (fun _ => rfl) ?_
    refine mm_E.s rfl rfl rfl (fun _ => rfl) ?_
    refine mm_E.s rfl rfl rfl (fun _ => rfl) ?_
    refine mm_E.s rfl rfl rfl (fun _ => rfl) ?_
    refine mm_E.s rfl rfl rfl (fun _ => rfl) ?_
    refine mm_E.s rfl rfl rfl (fun _ => rfl) ?_
    refine mm_E.s rfl rfl rfl (fun _ => rfl) ?_
    refine mm_E.s rfl rfl rfl (fun _ => rfl) ?_
    refine mm_E.s rfl rfl rfl (fun _ => rfl) ?_
    refine mm_E.s rfl rfl rfl (fun _ => rfl) ?_
    refine mm_E.s rfl rfl rfl (fun _ => rfl) ?_
    refine mm_E.s rfl rfl rfl (fun _ => rfl) ?_
    refine mm_E.s rfl rfl rfl (fun _ => rfl) ?_
    refine mm_E.s rfl rfl rfl (fun _ => rfl) ?_
    refine mm_E.s rfl rfl rfl (fun _ => rfl) ?_
    refine mm_E.s rfl rfl rfl (fun _ => rfl) ?_
    exact hk
  · skip
    refine mm_E.s rfl rfl rfl (fun _ => rfl) ?_
    refine mm_E.s rfl rfl rfl (fun _ => rfl) ?_
    refine mm_E.s rfl rfl rfl (fun _ => rfl) ?_
    refine mm_E.s rfl rfl rfl (fun _ => rfl) ?_
    refine mm_E.s rfl rfl rfl (fun _ => rfl) ?_
    refine mm_E.s rfl rfl rfl (fun _ => rfl) ?_
    refine mm_E.s rfl rfl rfl (fun _ => rfl) ?_
    refine mm_E.s rfl rfl rfl (fun _ => rfl) ?_
    refine mm_E.s rfl rfl rfl (fun _ => rfl) ?_
    refine mm_E.s rfl rfl rfl (fun _ => rfl) ?_
    refine mm_E.s rfl rfl rfl (fun _ => rfl) ?_
    refine mm_E.s rfl rfl rfl (fun _ => rfl) ?_
    refine mm_E.s rfl rfl rfl (fun _ => rfl) ?_
    refine mm_E.s rfl rfl rfl (fun _ => rfl) ?_
    refine mm_E.s rfl rfl rfl (fun _ => rfl) ?_
    refine mm_E.s rfl rfl rfl (fun _ => rfl) ?_
    refine mm_E.s rfl rfl rfl (fun _ => rfl) ?_
    refine mm_E.s rfl rfl rfl (fun _ => rfl) ?_
    refine mm_E.s rfl rfl rfl (fun _ => rfl) ?_
    refine mm_E.s rfl rfl rfl (fun _ => rfl) ?_
    exact hk
theorem y_bmB {scr : mm_X} {h : mm_H} {c k p : Int32} {r : Option Value × mm_H} (hp : ¬ x_pr p) (hk : mm_E kM scr 88 38 [some (.ref 25), some (.int c), some (.int k), some (.int p), none, none] [.int 0] h r) : mm_E kM scr 88 0 [some (.ref 25), some (.int c), some (.int k), some (.int p), none, none] [] h r := by
  have p2 : ¬ p = 2 := fun q => hp (Or.inl q)
  have p3 : ¬ p = 3 := fun q => hp (Or.inr (Or.inl q))
  have p5 : ¬ p = 5 := fun q => hp (Or.inr (Or.inr (Or.inl q)))
  have p7 : ¬ p = 7 := fun q => hp (Or.inr (Or.inr (Or.inr (Or.inl q))))
  have p11 : ¬ p = 11 := fun q => hp (Or.inr (Or.inr (Or.inr (Or.inr (Or.inl q)))))
  have p13 : ¬ p = 13 := fun q => hp (Or.inr (Or.inr (Or.inr (Or.inr (Or.inr q)))))
  refine mm_E.s rfl rfl rfl (fun _ => rfl) ?_
  refine mm_E.s rfl rfl rfl (fun _ => rfl) ?_
  refine mm_E.s rfl rfl rfl (fun _ => if_neg p2) ?_
  refine mm_E.s rfl rfl rfl (fun _ => rfl) ?_
  refine mm_E.s rfl rfl rfl (fun _ => rfl) ?_
  refine mm_E.s rfl rfl rfl (fun _ => if_neg p3) ?_
  refine mm_E.s rfl rfl rfl (fun _ => rfl) ?_
  refine mm_E.s rfl rfl rfl (fun _ => rfl) ?_
  refine mm_E.s rfl rfl rfl (fun _ => if_neg p5) ?_
  refine mm_E.s rfl rfl rfl (fun _ => rfl) ?_
  refine mm_E.s rfl rfl rfl (fun _ => rfl) ?_
  refine mm_E.s rfl rfl rfl (fun _ => if_neg p7) ?_
  refine mm_E.s rfl rfl rfl (fun _ => rfl) ?_
  refine mm_E.s rfl rfl rfl (fun _ => rfl) ?_
  refine mm_E.s rfl rfl rfl (fun _ => if_neg p11) ?_
  refine mm_E.s rfl rfl rfl (fun _ => rfl) ?_
  refine mm_E.s rfl rfl rfl (fun _ => rfl) ?_
  refine mm_E.s rfl rfl rfl (fun _ => if_neg p13) ?_
  refine mm_E.s rfl rfl rfl (fun _ => rfl) ?_
  exact hk
theorem x_prnz {p : Int32} (hp : x_pr p) : ¬ p.toInt64 = 0 := by
  rcases hp with rfl | rfl | rfl | rfl | rfl | rfl <;> decide
theorem y_bm {h : mm_H} {ro co di : Int32} (hE : x_em h ro co di) (c k p : Int32) : ∃ h', mm_EC kM 88 [.ref 25, .int c, .int k, .int p] h (some (.int (if (c = 0 ∨ c = 1) ∧ (¬ k < 0 ∧ ¬ 3 < k) ∧ x_pr p then 0 else -1)), h') := by
  by_cases hp : x_pr p
  · by_cases hc : c = 0 ∨ c = 1
    · by_cases hk : k < 0 ∨ 3 < k
      · rw [if_neg (fun q => hk.elim q.2.1.1 q.2.1.2)]
        refine ⟨h, kq_88, rfl, rfl, y_bmA hp ?_⟩
        refine mm_E.s rfl rfl rfl (fun _ => rfl) ?_
        refine mm_E.s rfl rfl rfl (fun _ => rfl) ?_
        refine mm_E.ic rfl rfl rfl rfl rfl (x_isC1 hc) ?_
        refine mm_E.s rfl rfl rfl (fun _ => rfl) ?_
        refine mm_E.s rfl rfl rfl (fun _ => rfl) ?_
        refine mm_E.ic rfl rfl rfl rfl rfl (x_isD0 hk) ?_
        refine mm_E.s rfl rfl rfl (fun _ => rfl) ?_
        refine mm_E.s rfl rfl rfl (fun _ => rfl) ?_
        exact mm_E.ret rfl rfl rfl
      · have k0 : ¬ k < 0 := fun q => hk (Or.inl q)
        have k3 : ¬ 3 < k := fun q => hk (Or.inr q)
        rw [if_pos ⟨hc, ⟨k0, k3⟩, hp⟩]
        obtain ⟨n, hn, rfl⟩ := x_c01 hc
        obtain ⟨tr, hO⟩ := y_o hE
        obtain ⟨h1, E1, hE1⟩ := y_bof hE hn k
        obtain ⟨tr1, hO1⟩ := y_o hE1
        obtain ⟨h2, E2, hE2⟩ := y_rank hE1 (x_prnz hp)
        obtain ⟨tr2, hO2⟩ := y_o hE2
        obtain ⟨h3, E3, hE3⟩ := y_bof hE2 hn (k + 1)
        obtain ⟨tr3, hO3⟩ := y_o hE3
        obtain ⟨h4, E4, hE4⟩ := y_rank hE3 (x_prnz hp)
        refine ⟨h4, kq_88, rfl, rfl, y_bmA hp ?_⟩
        refine mm_E.s rfl rfl rfl (fun _ => rfl) ?_
        refine mm_E.s rfl rfl rfl (fun _ => rfl) ?_
        refine mm_E.ic rfl rfl rfl rfl rfl (x_isC1 hc) ?_
        refine mm_E.s rfl rfl rfl (fun _ => rfl) ?_
        refine mm_E.s rfl rfl rfl (fun _ => rfl) ?_
        refine mm_E.ic rfl rfl rfl rfl rfl (x_isD1 k0 k3) ?_
        refine mm_E.s rfl rfl rfl (fun _ => rfl) ?_
        refine mm_E.s rfl rfl rfl (fun _ => rfl) ?_
        refine mm_E.s rfl rfl rfl (fun _ => rfl) ?_
        refine mm_E.s rfl rfl rfl (fun _ => rfl) ?_
        refine mm_E.s rfl rfl rfl (fun _ => rfl) ?_
        refine mm_E.s rfl rfl rfl (fun _ => rfl) ?_
        refine mm_E.iv rfl rfl rfl rfl hO rfl E1 ?_
        refine mm_E.s rfl rfl rfl (fun _ => rfl) ?_
        refine mm_E.s rfl rfl rfl (fun _ => rfl) ?_
        refine mm_E.s rfl rfl rfl (fun _ => rfl) ?_
        refine mm_E.iv rfl rfl rfl rfl hO1 rfl E2 ?_
        refine mm_E.s rfl rfl rfl (fun _ => rfl) ?_
        refine mm_E.s rfl rfl rfl (fun _ => rfl) ?_
        refine mm_E.s rfl rfl rfl (fun _ => rfl) ?_
        refine mm_E.s rfl rfl rfl (fun _ => rfl) ?_
        refine mm_E.s rfl rfl rfl (fun _ => rfl) ?_
        refine mm_E.s rfl rfl rfl (fun _ => rfl) ?_
        refine mm_E.iv rfl rfl rfl rfl hO2 rfl E3 ?_
        refine mm_E.s rfl rfl rfl (fun _ => rfl) ?_
        refine mm_E.s rfl rfl rfl (fun _ => rfl) ?_
        refine mm_E.s rfl rfl rfl (fun _ => rfl) ?_
        refine mm_E.iv rfl rfl rfl rfl hO3 rfl (y_many hE3 hn k) ?_
        refine mm_E.s rfl rfl rfl (fun _ => rfl) ?_
        refine mm_E.s rfl rfl rfl (fun _ => rfl) ?_
        refine mm_E.s rfl rfl rfl (fun _ => rfl) ?_
        refine mm_E.s rfl rfl rfl (fun _ => rfl) ?_
        refine mm_E.s rfl rfl rfl (fun _ => rfl) ?_
        refine mm_E.iv rfl rfl rfl rfl hO3 rfl E4 ?_
        refine mm_E.s rfl rfl rfl (fun _ => rfl) ?_
        exact mm_E.ret rfl rfl rfl
    · rw [if_neg (fun q => hc q.1)]
      refine ⟨h, kq_88, rfl, rfl, y_bmA hp ?_⟩
      refine mm_E.s rfl rfl rfl (fun _ => rfl) ?_
      refine mm_E.s rfl rfl rfl (fun _ => rfl) ?_
      refine mm_E.ic rfl rfl rfl rfl rfl (x_isC0 hc) ?_
      refine mm_E.s rfl rfl rfl (fun _ => rfl) ?_
      refine mm_E.s rfl rfl rfl (fun _ => rfl) ?_
      exact mm_E.ret rfl rfl rfl
  · rw [if_neg (fun q => hp q.2.2)]
    by_cases hc : c = 0 ∨ c = 1
    · by_cases hk : k < 0 ∨ 3 < k
      · refine ⟨h, kq_88, rfl, rfl, y_bmB hp ?_⟩
        refine mm_E.s rfl rfl rfl (fun _ => rfl) ?_
        refine mm_E.s rfl rfl rfl (fun _ => rfl) ?_
        refine mm_E.ic rfl rfl rfl rfl rfl (x_isC1 hc) ?_
        refine mm_E.s rfl rfl rfl (fun _ => rfl) ?_
        refine mm_E.s rfl rfl rfl (fun _ => rfl) ?_
        refine mm_E.ic rfl rfl rfl rfl rfl (x_isD0 hk) ?_
        refine mm_E.s rfl rfl rfl (fun _ => rfl) ?_
        refine mm_E.s rfl rfl rfl (fun _ => rfl) ?_
        exact mm_E.ret rfl rfl rfl
      · refine ⟨h, kq_88, rfl, rfl, y_bmB hp ?_⟩
        refine mm_E.s rfl rfl rfl (fun _ => rfl) ?_
        refine mm_E.s rfl rfl rfl (fun _ => rfl) ?_
        refine mm_E.ic rfl rfl rfl rfl rfl (x_isC1 hc) ?_
        refine mm_E.s rfl rfl rfl (fun _ => rfl) ?_
        refine mm_E.s rfl rfl rfl (fun _ => rfl) ?_
        refine mm_E.ic rfl rfl rfl rfl rfl (x_isD1 (fun q => hk (Or.inl q)) (fun q => hk (Or.inr q))) ?_
        refine mm_E.s rfl rfl rfl (fun _ => rfl) ?_
        refine mm_E.s rfl rfl rfl (fun _ => rfl) ?_
        refine mm_E.s rfl rfl rfl (fun _ => rfl) ?_
        refine mm_E.s rfl rfl rfl (fun _ => rfl) ?_
        exact mm_E.ret rfl rfl rfl
    · refine ⟨h, kq_88, rfl, rfl, y_bmB hp ?_⟩
      refine mm_E.s rfl rfl rfl (fun _ => rfl) ?_
      refine mm_E.s rfl rfl rfl (fun _ => rfl) ?_
      refine mm_E.ic rfl rfl rfl rfl rfl (x_isC0 hc) ?_
      refine mm_E.s rfl rfl rfl (fun _ => rfl) ?_
      refine mm_E.s rfl rfl rfl (fun _ => rfl) ?_
      exact mm_E.ret rfl rfl rfl

theorem y_rk {h : mm_H} {ro co di : Int32} (hE : x_em h ro co di) (k : Int32) : ∃ h', mm_EC kM 108 [.ref 25, .int k] h (some (.int (if ¬ k < 0 ∧ ¬ 3 < k then 0 else -1)), h') := by
  by_cases hk : k < 0 ∨ 3 < k
  · rw [if_neg (fun q => hk.elim q.1 q.2)]
    refine ⟨h, kq_108, rfl, rfl, ?_⟩
    refine mm_E.s rfl rfl rfl (fun _ => rfl) ?_
    refine mm_E.ic rfl rfl rfl rfl rfl (x_isD0 hk) ?_
    refine mm_E.s rfl rfl rfl (fun _ => rfl) ?_
    refine mm_E.s rfl rfl rfl (fun _ => rfl) ?_
    exact mm_E.ret rfl rfl rfl
  · have k0 : ¬ k < 0 := fun q => hk (Or.inl q)
    have k3 : ¬ 3 < k := fun q => hk (Or.inr q)
    rw [if_pos ⟨k0, k3⟩]
    obtain ⟨tr, has, hO, hH, hz⟩ := y_z hE
    obtain ⟨h1, E1, hE1⟩ := y_br hE (c := 0) (by decide) k
    obtain ⟨tr1, hO1⟩ := y_o hE1
    obtain ⟨h2, E2, hE2⟩ := y_br hE1 (c := 1) (by decide) (k + 1)
    obtain ⟨tr2, hO2⟩ := y_o hE2
    obtain ⟨h3, E3, hE3⟩ := y_shape hE2 0 0
    obtain ⟨tr3, has3, hO3, hH3, hz3⟩ := y_z hE3
    obtain ⟨h4, E4, hE4⟩ := y_rof hE3
    refine ⟨h4, kq_108, rfl, rfl, ?_⟩
    refine mm_E.s rfl rfl rfl (fun _ => rfl) ?_
    refine mm_E.ic rfl rfl rfl rfl rfl (x_isD1 k0 k3) ?_
    refine mm_E.s rfl rfl rfl (fun _ => rfl) ?_
    refine mm_E.s rfl rfl rfl (fun _ => rfl) ?_
    refine mm_E.iv rfl rfl rfl rfl hO rfl (x_simp0 hO hH hz) ?_
    refine mm_E.s rfl rfl rfl (fun _ => rfl) ?_
    refine mm_E.s rfl rfl rfl (fun _ => rfl) ?_
    refine mm_E.s rfl rfl rfl (fun _ => rfl) ?_
    refine mm_E.s rfl rfl rfl (fun _ => rfl) ?_
    refine mm_E.s rfl rfl rfl (fun _ => rfl) ?_
    refine mm_E.s rfl rfl rfl (fun _ => rfl) ?_
    refine mm_E.iv rfl rfl rfl rfl hO rfl (y_many hE (c := 0) (by decide) _) ?_
    refine mm_E.s rfl rfl rfl (fun _ => rfl) ?_
    refine mm_E.s rfl rfl rfl (fun _ => rfl) ?_
    refine mm_E.s rfl rfl rfl (fun _ => rfl) ?_
    refine mm_E.s rfl rfl rfl (fun _ => rfl) ?_
    refine mm_E.iv rfl rfl rfl rfl hO rfl (y_many hE (c := 0) (by decide) _) ?_
    refine mm_E.s rfl rfl rfl (fun _ => rfl) ?_
    refine mm_E.s rfl rfl rfl (fun _ => rfl) ?_
    refine mm_E.s rfl rfl rfl (fun _ => rfl) ?_
    refine mm_E.s rfl rfl rfl (fun _ => rfl) ?_
    refine mm_E.iv rfl rfl rfl rfl hO rfl E1 ?_
    refine mm_E.s rfl rfl rfl (fun _ => rfl) ?_
    refine mm_E.s rfl rfl rfl (fun _ => rfl) ?_
    refine mm_E.s rfl rfl rfl (fun _ => rfl) ?_
    refine mm_E.s rfl rfl rfl (fun _ => rfl) ?_
    refine mm_E.s rfl rfl rfl (fun _ => rfl) ?_
    refine mm_E.iv rfl rfl rfl rfl hO1 rfl E2 ?_
    refine mm_E.s rfl rfl rfl (fun _ => rfl) ?_
    refine mm_E.s rfl rfl rfl (fun _ => rfl) ?_
    refine mm_E.s rfl rfl rfl (fun _ => rfl) ?_
    refine mm_E.s rfl rfl rfl (fun _ => rfl) ?_
    refine mm_E.s rfl rfl rfl (fun _ => rfl) ?_
    refine mm_E.s rfl rfl rfl (fun _ => rfl) ?_
    refine mm_E.s rfl rfl rfl (fun _ => rfl) ?_
    refine mm_E.iv rfl rfl rfl rfl hO2 rfl (y_many hE2 (c := 1) (by decide) _) ?_
    refine mm_E.s rfl rfl rfl (fun _ => rfl) ?_
    refine mm_E.s rfl rfl rfl (fun _ => rfl) ?_
    refine mm_E.s rfl rfl rfl (fun _ => rfl) ?_
    refine mm_E.s rfl rfl rfl (fun _ => rfl) ?_
    refine mm_E.s rfl rfl rfl (fun _ => rfl) ?_
    refine mm_E.s rfl rfl rfl (fun _ => rfl) ?_
    refine mm_E.s rfl rfl rfl (fun _ => rfl) ?_
    refine mm_E.iv rfl rfl rfl rfl hO2 rfl (y_many hE2 (c := 1) (by decide) _) ?_
    refine mm_E.s rfl rfl rfl (fun _ => rfl) ?_
    refine mm_E.iv rfl rfl rfl rfl hO2 rfl E3 ?_
    refine mm_E.s rfl rfl rfl (fun _ => rfl) ?_
    refine mm_E.s rfl rfl rfl (fun _ => rfl) ?_
    refine mm_E.s rfl rfl rfl (fun _ => rfl) ?_
    refine mm_E.s rfl rfl rfl (fun _ => rfl) ?_
    refine mm_E.s rfl rfl rfl (fun _ => rfl) ?_
    refine mm_E.iv rfl rfl rfl rfl hO3 rfl (y_pb hE3 (c := 0) (by decide) _ _ _) ?_
    refine mm_E.s rfl rfl rfl (fun _ => rfl) ?_
    refine mm_E.s rfl rfl rfl (fun _ => rfl) ?_
    refine mm_E.s rfl rfl rfl (fun _ => rfl) ?_
    refine mm_E.iv rfl rfl rfl rfl hO3 rfl (x_pm0 hO3 hH3 hz3 _ _) ?_
    refine mm_E.s rfl rfl rfl (fun _ => rfl) ?_
    refine mm_E.s rfl rfl rfl (fun _ => rfl) ?_
    refine mm_E.s rfl rfl rfl (fun _ => rfl) ?_
    refine mm_E.s rfl rfl rfl (fun _ => rfl) ?_
    refine mm_E.s rfl rfl rfl (fun _ => rfl) ?_
    refine mm_E.s rfl rfl rfl (fun _ => rfl) ?_
    refine mm_E.s rfl rfl rfl (fun _ => rfl) ?_
    refine mm_E.iv rfl rfl rfl rfl hO3 rfl (y_pb hE3 (c := 1) (by decide) _ _ _) ?_
    refine mm_E.s rfl rfl rfl (fun _ => rfl) ?_
    refine mm_E.iv rfl rfl rfl rfl hO3 rfl E4 ?_
    refine mm_E.s rfl rfl rfl (fun _ => rfl) ?_
    refine mm_E.s rfl rfl rfl (fun _ => rfl) ?_
    exact mm_E.ret rfl rfl rfl

theorem y_note {h : mm_H} {ro co di tr : Int32} {has : Nat → Int32} (hO : mm_nth h 25 = some (x_mo ro co di tr)) (hH : mm_nth h 26 = some (x_ha has)) (hz : x_no has) {c : Nat} (hc : c < 2) : mm_EC kM 111 [.ref 25, .int (nI c)] h (none, h.set 25 (x_mo ro co di 0)) := by
  have hO1 : mm_nth (h.set 25 (x_mo ro co di 0)) 25 = some (x_mo ro co di 0) := mm_nth_set (mm_nth_lt hO)
  have hH1 : mm_nth (h.set 25 (x_mo ro co di 0)) 26 = some (x_ha has) := by rw [mm_nth_set_ne (by decide)]; exact hH
  refine ⟨kq_111, rfl, rfl, ?_⟩
  refine mm_E.s rfl rfl rfl (fun _ => rfl) ?_
  refine mm_E.s rfl rfl rfl (fun _ => rfl) ?_
  refine mm_E.pfi rfl rfl rfl hO rfl (mm_put_some _ _ _ (mm_nth_lt hO)) ?_
  refine mm_E.s rfl rfl rfl (fun _ => rfl) ?_
  refine mm_E.s rfl rfl rfl (fun _ => rfl) ?_
  refine mm_E.loop (fun t => [some (.ref 25), some (.int (nI c)), some (.int (nI (t + 1))), none, none]) (fun _ => h.set 25 (x_mo ro co di 0)) 255 ?_ ?_
  · skip
    refine mm_E.s rfl rfl rfl (fun _ => rfl) ?_
    refine mm_E.s rfl rfl rfl (fun _ => rfl) ?_
    refine mm_E.s rfl rfl rfl (fun _ => rfl) ?_
    exact mm_E.ret rfl rfl rfl
  · intro t ht ih
    refine mm_E.s rfl rfl rfl (fun _ => rfl) ?_
    refine mm_E.s rfl rfl rfl (fun _ => rfl) ?_
    refine mm_E.s rfl rfl rfl (fun _ => if_neg (nI_ge (a := t + 1) (b := 256) (by omega) (by decide))) ?_
    refine mm_E.s rfl rfl rfl (fun _ => rfl) ?_
    refine mm_E.gf rfl rfl rfl hO1 rfl ?_
    refine mm_E.s rfl rfl rfl (fun _ => rfl) ?_
    refine mm_E.s rfl rfl rfl (fun _ => rfl) ?_
    refine mm_E.s rfl rfl rfl (fun _ => rfl) ?_
    refine mm_E.s rfl rfl rfl (fun _ => rfl) ?_
    refine mm_E.s rfl rfl rfl (fun _ => rfl) ?_
    refine mm_E.ti _ (x_ix c (t + 1)) ?_
    refine mm_E.za rfl rfl hH1 (mm_bd (by omega) (by decide)) (v := 0) (by rw [mm_cl (by omega)]; exact hz _ (by omega)) ?_
    refine mm_E.s rfl rfl rfl (fun _ => rfl) ?_
    refine mm_E.s rfl rfl rfl (fun _ => rfl) ?_
    refine mm_E.s rfl rfl rfl (fun _ => rfl) ?_
    rw [← nI_1] at ih
    exact ih

theorem y_coc {h : mm_H} {ro co di : Int32} (hO : mm_nth h 25 = some (x_mo ro co di 0)) : mm_EC kM 113 [.ref 25, .int 0] h (some (.int 0), h) := by
  refine ⟨kq_113, rfl, rfl, ?_⟩
  refine mm_E.s rfl rfl rfl (fun _ => rfl) ?_
  refine mm_E.s rfl rfl rfl (fun _ => rfl) ?_
  refine mm_E.s rfl rfl rfl (fun _ => rfl) ?_
  refine mm_E.s rfl rfl rfl (fun _ => rfl) ?_
  refine mm_E.s rfl rfl rfl (fun _ => rfl) ?_
  refine mm_E.s rfl rfl rfl (fun _ => rfl) ?_
  refine mm_E.s rfl rfl rfl (fun _ => rfl) ?_
  refine mm_E.s rfl rfl rfl (fun _ => rfl) ?_
  refine mm_E.s rfl rfl rfl (fun _ => rfl) ?_
  refine mm_E.s rfl rfl rfl (fun _ => rfl) ?_
  refine mm_E.s rfl rfl rfl (fun _ => rfl) ?_
  refine mm_E.gf rfl rfl rfl hO rfl ?_
  refine mm_E.s rfl rfl rfl (fun _ => rfl) ?_
  refine mm_E.s rfl rfl rfl (fun _ => rfl) ?_
  exact mm_E.ret rfl rfl rfl

theorem y_prod {h : mm_H} {ro co di : Int32} (hE : x_em h ro co di) (c : Int32) : ∃ h', mm_EC kM 115 [.ref 25, .int c] h (some (.int (if c = 0 ∨ c = 1 then 0 else -1)), h') := by
  by_cases hc : c = 0 ∨ c = 1
  · rw [if_pos hc]
    obtain ⟨n, hn, rfl⟩ := x_c01 hc
    obtain ⟨tr, has, kept, f, cc, sp, e1, e2, e3, mat, work, dv, hO, hH, hz, h27, h28, h29, h30, h31, h32, h33, h34, h35, h36⟩ := hE
    have l33 := mm_nth_lt h33
    have hO1 : mm_nth (h.set 33 (x_it 24 (x_pI (fun _ => 0) sp 24))) 25 = some (x_mo ro co di tr) := by rw [mm_nth_set_ne (by decide)]; exact hO
    have hH1 : mm_nth (h.set 33 (x_it 24 (x_pI (fun _ => 0) sp 24))) 26 = some (x_ha has) := by rw [mm_nth_set_ne (by decide)]; exact hH
    have E1 := y_note hO1 hH1 hz hn
    have hO2 : mm_nth ((h.set 33 (x_it 24 (x_pI (fun _ => 0) sp 24))).set 25 (x_mo ro co di 0)) 25 = some (x_mo ro co di 0) := mm_nth_set (mm_nth_lt hO1)
    have hH2 : mm_nth ((h.set 33 (x_it 24 (x_pI (fun _ => 0) sp 24))).set 25 (x_mo ro co di 0)) 26 = some (x_ha has) := by rw [mm_nth_set_ne (by decide)]; exact hH1
    refine ⟨(h.set 33 (x_it 24 (x_pI (fun _ => 0) sp 24))).set 25 (x_mo ro co di 0), kq_115, rfl, rfl, ?_⟩
    refine mm_E.hc (h.set 33 (x_it 24 (x_pI (fun _ => 0) sp 0))) (by rw [x_pI_0, x_same h33]) ?_
    refine mm_E.s rfl rfl rfl (fun _ => rfl) ?_
    refine mm_E.ic rfl rfl rfl rfl rfl (x_isC1 hc) ?_
    refine mm_E.s rfl rfl rfl (fun _ => rfl) ?_
    refine mm_E.s rfl rfl rfl (fun _ => rfl) ?_
    refine mm_E.s rfl rfl rfl (fun _ => rfl) ?_
    refine mm_E.loop (fun t => [some (.ref 25), some (.int (nI n)), some (.int (nI t)), none, none, none, none, none]) (fun t => h.set 33 (x_it 24 (x_pI (fun _ => 0) sp t))) 24 ?_ ?_
    · skip
      refine mm_E.s rfl rfl rfl (fun _ => rfl) ?_
      refine mm_E.s rfl rfl rfl (fun _ => rfl) ?_
      refine mm_E.s rfl rfl rfl (fun _ => rfl) ?_
      refine mm_E.s rfl rfl rfl (fun _ => rfl) ?_
      refine mm_E.s rfl rfl rfl (fun _ => rfl) ?_
      refine mm_E.iv rfl rfl rfl rfl hO1 rfl E1 ?_
      refine mm_E.s rfl rfl rfl (fun _ => rfl) ?_
      refine mm_E.s rfl rfl rfl (fun _ => rfl) ?_
      refine mm_E.s rfl rfl rfl (fun _ => rfl) ?_
      refine mm_E.s rfl rfl rfl (fun _ => rfl) ?_
      refine mm_E.s rfl rfl rfl (fun _ => rfl) ?_
      refine mm_E.iv rfl rfl rfl rfl hO2 rfl (x_many0 hO2 hH2 hz hn _) ?_
      refine mm_E.s rfl rfl rfl (fun _ => rfl) ?_
      refine mm_E.s rfl rfl rfl (fun _ => rfl) ?_
      refine mm_E.s rfl rfl rfl (fun _ => rfl) ?_
      refine mm_E.s rfl rfl rfl (fun _ => rfl) ?_
      refine mm_E.s rfl rfl rfl (fun _ => rfl) ?_
      refine mm_E.s rfl rfl rfl (fun _ => rfl) ?_
      refine mm_E.s rfl rfl rfl (fun _ => rfl) ?_
      refine mm_E.s rfl rfl rfl (fun _ => rfl) ?_
      refine mm_E.s rfl rfl rfl (fun _ => rfl) ?_
      refine mm_E.s rfl rfl rfl (fun _ => rfl) ?_
      refine mm_E.iv rfl rfl rfl rfl hO2 rfl (y_coc hO2) ?_
      refine mm_E.s rfl rfl rfl (fun _ => rfl) ?_
      refine mm_E.s rfl rfl rfl (fun _ => rfl) ?_
      refine mm_E.s rfl rfl rfl (fun _ => rfl) ?_
      refine mm_E.s rfl rfl rfl (fun _ => rfl) ?_
      refine mm_E.s rfl rfl rfl (fun _ => rfl) ?_
      refine mm_E.s rfl rfl rfl (fun _ => rfl) ?_
      refine mm_E.s rfl rfl rfl (fun _ => rfl) ?_
      refine mm_E.s rfl rfl rfl (fun _ => rfl) ?_
      refine mm_E.s rfl rfl rfl (fun _ => rfl) ?_
      exact mm_E.ret rfl rfl rfl
    · intro t ht ih
      have hO3 : mm_nth (h.set 33 (x_it 24 (x_pI (fun _ => 0) sp t))) 25 = some (x_mo ro co di tr) := by rw [mm_nth_set_ne (by decide)]; exact hO
      rw [← nI_1, ← x_pI_s] at ih
      refine mm_E.s rfl rfl rfl (fun _ => rfl) ?_
      refine mm_E.s rfl rfl rfl (fun _ => rfl) ?_
      refine mm_E.s rfl rfl rfl (fun _ => if_neg (nI_ge (a := t) (b := 24) (by omega) (by decide))) ?_
      refine mm_E.s rfl rfl rfl (fun _ => rfl) ?_
      refine mm_E.gf rfl rfl rfl hO3 rfl ?_
      refine mm_E.s rfl rfl rfl (fun _ => rfl) ?_
      refine mm_E.s rfl rfl rfl (fun _ => rfl) ?_
      refine mm_E.is rfl rfl (mm_nth_set l33) (mm_bd (by omega) (by decide)) (mm_put_some _ _ _ (by simpa using l33)) ?_
      refine mm_E.s rfl rfl rfl (fun _ => rfl) ?_
      refine mm_E.s rfl rfl rfl (fun _ => rfl) ?_
      rw [List.set_set, mm_cl (by omega)]
      exact ih
  · rw [if_neg hc]
    refine ⟨h, kq_115, rfl, rfl, ?_⟩
    refine mm_E.s rfl rfl rfl (fun _ => rfl) ?_
    refine mm_E.ic rfl rfl rfl rfl rfl (x_isC0 hc) ?_
    refine mm_E.s rfl rfl rfl (fun _ => rfl) ?_
    refine mm_E.s rfl rfl rfl (fun _ => rfl) ?_
    exact mm_E.ret rfl rfl rfl

theorem y_map {h : mm_H} {ro co di : Int32} (hE : x_em h ro co di) (v u : Int32) : ∃ h', mm_EC kM 102 [.ref 25, .int v, .int u] h (some (.int (if (¬ v < 0 ∧ ¬ 7 < v) ∧ ¬ u < 0 ∧ u ≤ 7 then 1 else 0)), h') := by
  obtain ⟨tr, has, kept, f, cc, sp, e1, e2, e3, mat, work, dv, hO, hH, hz, h27, h28, h29, h30, h31, h32, h33, h34, h35, h36⟩ := hE
  by_cases v0 : v < 0
  · rw [if_neg (fun q => q.1.1 v0)]
    refine ⟨h, kq_102, rfl, rfl, ?_⟩
    refine mm_E.s rfl rfl rfl (fun _ => rfl) ?_
    refine mm_E.s rfl rfl rfl (fun _ => if_pos v0) ?_
    refine mm_E.s rfl rfl rfl (fun _ => rfl) ?_
    exact mm_E.ret rfl rfl rfl
  · by_cases v7 : 7 < v
    · rw [if_neg (fun q => q.1.2 v7)]
      refine ⟨h, kq_102, rfl, rfl, ?_⟩
      refine mm_E.s rfl rfl rfl (fun _ => rfl) ?_
      refine mm_E.s rfl rfl rfl (fun _ => if_neg v0) ?_
      refine mm_E.s rfl rfl rfl (fun _ => rfl) ?_
      refine mm_E.s rfl rfl rfl (fun _ => rfl) ?_
      refine mm_E.s rfl rfl rfl (fun _ => if_pos v7) ?_
      refine mm_E.s rfl rfl rfl (fun _ => rfl) ?_
      exact mm_E.ret rfl rfl rfl
    · by_cases u0 : u < 0
      · rw [if_neg (fun q => q.2.1 u0)]
        refine ⟨h, kq_102, rfl, rfl, ?_⟩
        refine mm_E.s rfl rfl rfl (fun _ => rfl) ?_
        refine mm_E.s rfl rfl rfl (fun _ => if_neg v0) ?_
        refine mm_E.s rfl rfl rfl (fun _ => rfl) ?_
        refine mm_E.s rfl rfl rfl (fun _ => rfl) ?_
        refine mm_E.s rfl rfl rfl (fun _ => if_neg v7) ?_
        refine mm_E.s rfl rfl rfl (fun _ => rfl) ?_
        refine mm_E.s rfl rfl rfl (fun _ => if_pos u0) ?_
        refine mm_E.s rfl rfl rfl (fun _ => rfl) ?_
        exact mm_E.ret rfl rfl rfl
      · by_cases u7 : u ≤ 7
        · rw [if_pos ⟨⟨v0, v7⟩, u0, u7⟩]
          obtain ⟨j, hj, rfl⟩ := nI_of2 (x := v) (M := 7) (n := 7) rfl v0 (Int32.not_lt.mp v7)
          refine ⟨h.set 28 (x_it 8 (upd f (nI j).toNatClampNeg u)), kq_102, rfl, rfl, ?_⟩
          refine mm_E.s rfl rfl rfl (fun _ => rfl) ?_
          refine mm_E.s rfl rfl rfl (fun _ => if_neg v0) ?_
          refine mm_E.s rfl rfl rfl (fun _ => rfl) ?_
          refine mm_E.s rfl rfl rfl (fun _ => rfl) ?_
          refine mm_E.s rfl rfl rfl (fun _ => if_neg v7) ?_
          refine mm_E.s rfl rfl rfl (fun _ => rfl) ?_
          refine mm_E.s rfl rfl rfl (fun _ => if_neg u0) ?_
          refine mm_E.s rfl rfl rfl (fun _ => rfl) ?_
          refine mm_E.s rfl rfl rfl (fun _ => rfl) ?_
          refine mm_E.s rfl rfl rfl (fun _ => if_pos u7) ?_
          refine mm_E.s rfl rfl rfl (fun _ => rfl) ?_
          refine mm_E.gf rfl rfl rfl hO rfl ?_
          refine mm_E.s rfl rfl rfl (fun _ => rfl) ?_
          refine mm_E.s rfl rfl rfl (fun _ => rfl) ?_
          refine mm_E.is rfl rfl h28 (mm_bd (by omega) (by decide)) (mm_put_some _ _ _ (mm_nth_lt h28)) ?_
          refine mm_E.s rfl rfl rfl (fun _ => rfl) ?_
          exact mm_E.ret rfl rfl rfl
        · rw [if_neg (fun q => u7 q.2.2)]
          refine ⟨h, kq_102, rfl, rfl, ?_⟩
          refine mm_E.s rfl rfl rfl (fun _ => rfl) ?_
          refine mm_E.s rfl rfl rfl (fun _ => if_neg v0) ?_
          refine mm_E.s rfl rfl rfl (fun _ => rfl) ?_
          refine mm_E.s rfl rfl rfl (fun _ => rfl) ?_
          refine mm_E.s rfl rfl rfl (fun _ => if_neg v7) ?_
          refine mm_E.s rfl rfl rfl (fun _ => rfl) ?_
          refine mm_E.s rfl rfl rfl (fun _ => if_neg u0) ?_
          refine mm_E.s rfl rfl rfl (fun _ => rfl) ?_
          refine mm_E.s rfl rfl rfl (fun _ => rfl) ?_
          refine mm_E.s rfl rfl rfl (fun _ => if_neg u7) ?_
          refine mm_E.s rfl rfl rfl (fun _ => rfl) ?_
          exact mm_E.ret rfl rfl rfl

