def x_fc (s : Nat) : Nat → Int32
  | 0 => nI s
  | t + 1 => (x_fc s t - 1) &&& nI s
def x_gr (s : Nat) (g : Nat → Int32) : Nat → Nat → Int32
  | 0 => g
  | t + 1 => upd (x_gr s g t) (x_dm (x_fc s t)).toNatClampNeg (x_gr s g t (x_dm (x_fc s t)).toNatClampNeg + 1)
def x_pp (s : Nat) (p : Nat → Int32) : Nat → Nat → Int32
  | 0 => p
  | t + 1 => upd (x_pp s p t) (x_fc s t).toNatClampNeg 0
def x_sm (g : Nat → Int32) : Nat → Int32
  | 0 => 0
  | k + 1 => x_sm g k + g k
def x_N (s : Nat) : Nat := ((List.range 17).find? (fun t => decide (x_fc s t ≤ 0))).getD 0
abbrev x_P0 : Nat → Int32 := x_fill (fun _ => 0) (-1) 256
abbrev x_G0 : Nat → Int32 := x_fill (fun _ => 0) 0 4
def x_ct (pl : Nat → Int32) (k : Nat) : Nat → Nat
  | 0 => 0
  | t + 1 => if ¬ pl (t + 1) = -1 ∧ x_dm (nI (t + 1)) = nI k then x_ct pl k t + 1 else x_ct pl k t
theorem x_ct_le (pl : Nat → Int32) (k : Nat) : ∀ (d t : Nat), x_ct pl k t ≤ x_ct pl k (t + d)
  | 0, t => Nat.le_refl _
  | d + 1, t => by
    have z := x_ct_le pl k d t
    have e : x_ct pl k (t + (d + 1)) = if ¬ pl (t + d + 1) = -1 ∧ x_dm (nI (t + d + 1)) = nI k then x_ct pl k (t + d) + 1 else x_ct pl k (t + d) := rfl
    rw [e]
    split <;> omega
theorem x_na_ct {pl sz se : Nat → Int32} (hd : ∀ t, t < 255 → ¬ pl (t + 1) = -1 → 0 ≤ (x_dm (nI (t + 1))).toInt ∧ (x_dm (nI (t + 1))).toInt < 4) (h0 : ∀ k, k < 4 → sz k = 0) : ∀ (t : Nat), t ≤ 255 → ∀ k, k < 4 → (x_na pl sz se t).2.1 k = nI (x_ct pl k t)
  | 0, _, k, hk => h0 k hk
  | t + 1, ht, k, hk => by
    have ih := x_na_ct (se := se) hd h0 t (by omega)
    by_cases hp : pl (t + 1) = -1
    · rw [show x_na pl sz se (t + 1) = x_na pl sz se t from if_pos hp, show x_ct pl k (t + 1) = x_ct pl k t from if_neg (fun q => q.1 hp)]
      exact ih k hk
    · rw [show x_na pl sz se (t + 1) = _ from if_neg hp]
      obtain ⟨d0, d4⟩ := hd t (by omega) hp
      obtain ⟨j, hj, ej⟩ : ∃ j : Nat, j < 4 ∧ x_dm (nI (t + 1)) = nI j := ⟨(x_dm (nI (t + 1))).toInt.toNat, by omega, Int32.toInt_inj.mp (by rw [nI_toInt (by omega)]; omega)⟩
      show upd _ _ _ k = _
      rw [ej, mm_cl (by omega)]
      unfold upd
      by_cases hkj : k = j
      · subst hkj
        rw [if_pos rfl, show x_ct pl k (t + 1) = x_ct pl k t + 1 from if_pos ⟨hp, ej⟩, ih k hk]
        exact nI_1 _
      · rw [if_neg hkj, show x_ct pl k (t + 1) = x_ct pl k t from if_neg (fun q => hkj (((nI_eq (by omega) (by omega)).mp (q.2.symm.trans ej))))]
        exact ih k hk
theorem x_nb_of {pl sz se : Nat → Int32} (hd : ∀ t, t < 255 → ¬ pl (t + 1) = -1 → 0 ≤ (x_dm (nI (t + 1))).toInt ∧ (x_dm (nI (t + 1))).toInt < 4) (h0 : ∀ k, k < 4 → sz k = 0) (hc : ∀ k, k < 4 → x_ct pl k 255 < 24) : x_nb pl sz se := by
  intro t ht hp
  obtain ⟨d0, d4⟩ := hd t ht hp
  obtain ⟨j, hj, ej⟩ : ∃ j : Nat, j < 4 ∧ x_dm (nI (t + 1)) = nI j := ⟨(x_dm (nI (t + 1))).toInt.toNat, by omega, Int32.toInt_inj.mp (by rw [nI_toInt (by omega)]; omega)⟩
  refine ⟨⟨d0, d4⟩, ?_⟩
  rw [ej, mm_cl (by omega), x_na_ct hd h0 t (by omega) j hj]
  have z := x_ct_le pl j (255 - t) t
  rw [show t + (255 - t) = 255 by omega] at z
  have z2 := hc j hj
  rw [show nI j * 24 + nI (x_ct pl j t) = nI (j * 24 + x_ct pl j t) by rw [show (24 : Int32) = nI 24 from rfl, pk_mul, nI_add], nI_toInt (by omega)]
  omega
/-- what is wanted of a set of at most four -/
abbrev x_ok (s : Nat) : Prop := (∀ t, t < x_N s → ¬ x_fc s t ≤ 0 ∧ (0 ≤ (x_fc s t).toInt ∧ (x_fc s t).toInt < 256) ∧ 0 ≤ (x_dm (x_fc s t)).toInt ∧ (x_dm (x_fc s t)).toInt < 4) ∧ x_fc s (x_N s) ≤ 0 ∧ (∀ k, k < 4 → 0 + x_gr s x_G0 (x_N s) k ≤ 24) ∧ x_sm (x_gr s x_G0 (x_N s)) 4 = x_mr s s ∧ (∀ t, t < 255 → ¬ x_pp s x_P0 (x_N s) (t + 1) = -1 → 0 ≤ (x_dm (nI (t + 1))).toInt ∧ (x_dm (nI (t + 1))).toInt < 4) ∧ (∀ k, k < 4 → x_ct (x_pp s x_P0 (x_N s)) k 255 < 24) ∧ ∀ k, k < 4 → x_cn s k s ≤ 24

theorem x_P0_at {x : Int32} (h : 0 ≤ x.toInt ∧ x.toInt < 256) : x_P0 x.toNatClampNeg = -1 := by
  have e : x.toNatClampNeg = x.toInt.toNat := rfl
  exact if_pos (show x.toNatClampNeg < 256 by omega)
theorem x_P0_j (j : Nat) (h : j < 256) : x_P0 j = -1 := by
  exact if_pos h
theorem x_fz (k : Nat) (_ : k < 4) : x_fill (fun _ => 0) 0 4 k = 0 := by
  unfold x_fill
  split <;> rfl
theorem z_fresh {M : mm_H} (hM : x_eM M) : x_e0 ([.inr (3, [.ref 1, .ref 7, .ref 13, .ref 14, .ref 21, .ref 23, .ref 24]), .inr (0, [.ref 2, .ref 3, .ref 4, .ref 5, .ref 6]), x_it 256 x_P0, x_it 256 (fun _ => 0), x_it 4 (fun _ => 0), x_it 96 (fun _ => 0), x_it 4 (fun _ => 0), .inr (0, [.ref 8, .ref 9, .ref 10, .ref 11, .ref 12]), x_it 256 x_P0, x_it 256 (fun _ => 0), x_it 4 (fun _ => 0), x_it 96 (fun _ => 0), x_it 4 (fun _ => 0), x_it 8 (x_idn 8), .inr (1, [.ref 15, .ref 16, .ref 17, .ref 18, .ref 19, .ref 20, .int 0, .int 0, .int 2147483647, .long 0, .int 0]), x_it 2304 (fun _ => 0), x_it 2304 (fun _ => 0), x_it 31 (fun _ => 0), x_it 48 (fun _ => 0), x_it 10 (fun _ => 0), x_it 10 (fun _ => 0), .inr (2, [.ref 22]), x_lg 24 (fun _ => 0), x_it 24 (fun _ => 0), x_it 24 (fun _ => 0)] ++ M : mm_H) 0 0 0 0 := ⟨x_P0, (fun _ => 0), (fun _ => 0), (fun _ => 0), (fun _ => 0), x_P0, (fun _ => 0), (fun _ => 0), (fun _ => 0), (fun _ => 0), (x_idn 8), (fun _ => 0), (fun _ => 0), (fun _ => 0), (fun _ => 0), (fun _ => 0), (fun _ => 0), (fun _ => 0), (fun _ => 0), (fun _ => 0), 2147483647, M, rfl, fun _ _ => rfl, fun _ _ => rfl, x_P0_j, x_P0_j, hM⟩
set_option maxHeartbeats 4000000 in
theorem z_inc0 {M : mm_H} {s : Nat} (hs1 : 1 ≤ s) (hs : s < 256) (hok : x_ok s) : mm_EC kM 10 [.ref 1, .int (nI s)] ([.inr (3, [.ref 1, .ref 7, .ref 13, .ref 14, .ref 21, .ref 23, .ref 24]), .inr (0, [.ref 2, .ref 3, .ref 4, .ref 5, .ref 6]), x_it 256 x_P0, x_it 256 (fun _ => 0), x_it 4 (fun _ => 0), x_it 96 (fun _ => 0), x_it 4 (fun _ => 0), .inr (0, [.ref 8, .ref 9, .ref 10, .ref 11, .ref 12]), x_it 256 x_P0, x_it 256 (fun _ => 0), x_it 4 (fun _ => 0), x_it 96 (fun _ => 0), x_it 4 (fun _ => 0), x_it 8 (x_idn 8), .inr (1, [.ref 15, .ref 16, .ref 17, .ref 18, .ref 19, .ref 20, .int 0, .int 0, .int 2147483647, .long 0, .int 0]), x_it 2304 (fun _ => 0), x_it 2304 (fun _ => 0), x_it 31 (fun _ => 0), x_it 48 (fun _ => 0), x_it 10 (fun _ => 0), x_it 10 (fun _ => 0), .inr (2, [.ref 22]), x_lg 24 (fun _ => 0), x_it 24 (fun _ => 0), x_it 24 (fun _ => 0)] ++ M : mm_H) (some (.int (x_mr s s)), ([.inr (3, [.ref 1, .ref 7, .ref 13, .ref 14, .ref 21, .ref 23, .ref 24]), .inr (0, [.ref 2, .ref 3, .ref 4, .ref 5, .ref 6]), x_it 256 (x_na (x_pp s x_P0 (x_N s)) (x_fill (fun _ => 0) 0 4) (fun _ => 0) 255).1, x_it 256 (fun _ => 0), x_it 4 (x_na (x_pp s x_P0 (x_N s)) (x_fill (fun _ => 0) 0 4) (fun _ => 0) 255).2.1, x_it 96 (x_na (x_pp s x_P0 (x_N s)) (x_fill (fun _ => 0) 0 4) (fun _ => 0) 255).2.2, x_it 4 (x_gr s x_G0 (x_N s)), .inr (0, [.ref 8, .ref 9, .ref 10, .ref 11, .ref 12]), x_it 256 x_P0, x_it 256 (fun _ => 0), x_it 4 (fun _ => 0), x_it 96 (fun _ => 0), x_it 4 (fun _ => 0), x_it 8 (x_idn 8), .inr (1, [.ref 15, .ref 16, .ref 17, .ref 18, .ref 19, .ref 20, .int 0, .int 0, .int 2147483647, .long 0, .int 0]), x_it 2304 (fun _ => 0), x_it 2304 (fun _ => 0), x_it 31 (fun _ => 0), x_it 48 (fun _ => 0), x_it 10 (fun _ => 0), x_it 10 (fun _ => 0), .inr (2, [.ref 22]), x_lg 24 (fun _ => 0), x_it 24 (fun _ => 0), x_it 24 (fun _ => 0)] ++ M : mm_H)) := by
  rw [← hok.2.2.2.1]
  have hnb : x_nb (x_pp s x_P0 (x_N s)) (x_fill (fun _ => 0) 0 4) (fun _ => 0) := x_nb_of hok.2.2.2.2.1 x_fz hok.2.2.2.2.2.1
  refine ⟨kq_10, rfl, rfl, ?_⟩
  refine mm_E.s rfl rfl rfl (fun _ => rfl) ?_
  refine mm_E.gf rfl rfl rfl rfl rfl ?_
  refine mm_E.s rfl rfl rfl (fun _ => rfl) ?_
  refine mm_E.ic rfl rfl rfl rfl rfl (x_fill_EC rfl (by decide)) ?_
  refine mm_E.s rfl rfl rfl (fun _ => rfl) ?_
  refine mm_E.s rfl rfl rfl (fun _ => rfl) ?_
  refine mm_E.hc ([.inr (3, [.ref 1, .ref 7, .ref 13, .ref 14, .ref 21, .ref 23, .ref 24]), .inr (0, [.ref 2, .ref 3, .ref 4, .ref 5, .ref 6]), x_it 256 x_P0, x_it 256 (fun _ => 0), x_it 4 (fun _ => 0), x_it 96 (fun _ => 0), x_it 4 (x_gr s x_G0 0), .inr (0, [.ref 8, .ref 9, .ref 10, .ref 11, .ref 12]), x_it 256 x_P0, x_it 256 (fun _ => 0), x_it 4 (fun _ => 0), x_it 96 (fun _ => 0), x_it 4 (fun _ => 0), x_it 8 (x_idn 8), .inr (1, [.ref 15, .ref 16, .ref 17, .ref 18, .ref 19, .ref 20, .int 0, .int 0, .int 2147483647, .long 0, .int 0]), x_it 2304 (fun _ => 0), x_it 2304 (fun _ => 0), x_it 31 (fun _ => 0), x_it 48 (fun _ => 0), x_it 10 (fun _ => 0), x_it 10 (fun _ => 0), .inr (2, [.ref 22]), x_lg 24 (fun _ => 0), x_it 24 (fun _ => 0), x_it 24 (fun _ => 0)] ++ M : mm_H) rfl ?_
  refine mm_E.loop (fun t => [some (.ref 1), some (.int (nI s)), some (.int (x_fc s t)), none]) (fun t => ([.inr (3, [.ref 1, .ref 7, .ref 13, .ref 14, .ref 21, .ref 23, .ref 24]), .inr (0, [.ref 2, .ref 3, .ref 4, .ref 5, .ref 6]), x_it 256 x_P0, x_it 256 (fun _ => 0), x_it 4 (fun _ => 0), x_it 96 (fun _ => 0), x_it 4 (x_gr s x_G0 t), .inr (0, [.ref 8, .ref 9, .ref 10, .ref 11, .ref 12]), x_it 256 x_P0, x_it 256 (fun _ => 0), x_it 4 (fun _ => 0), x_it 96 (fun _ => 0), x_it 4 (fun _ => 0), x_it 8 (x_idn 8), .inr (1, [.ref 15, .ref 16, .ref 17, .ref 18, .ref 19, .ref 20, .int 0, .int 0, .int 2147483647, .long 0, .int 0]), x_it 2304 (fun _ => 0), x_it 2304 (fun _ => 0), x_it 31 (fun _ => 0), x_it 48 (fun _ => 0), x_it 10 (fun _ => 0), x_it 10 (fun _ => 0), .inr (2, [.ref 22]), x_lg 24 (fun _ => 0), x_it 24 (fun _ => 0), x_it 24 (fun _ => 0)] ++ M : mm_H)) (x_N s) ?_ ?_
  · skip
    refine mm_E.s rfl rfl rfl (fun _ => rfl) ?_
    refine mm_E.s rfl rfl rfl (fun _ => if_pos hok.2.1) ?_
    refine mm_E.s rfl rfl rfl (fun _ => rfl) ?_
    refine mm_E.s rfl rfl rfl (fun _ => rfl) ?_
    refine mm_E.s rfl rfl rfl (fun _ => rfl) ?_
    refine mm_E.s rfl rfl rfl (fun _ => rfl) ?_
    refine mm_E.loop (fun k => [some (.ref 1), some (.int (nI s)), some (.int (x_sm (x_gr s x_G0 (x_N s)) k)), some (.int (nI k))]) (fun _ => ([.inr (3, [.ref 1, .ref 7, .ref 13, .ref 14, .ref 21, .ref 23, .ref 24]), .inr (0, [.ref 2, .ref 3, .ref 4, .ref 5, .ref 6]), x_it 256 x_P0, x_it 256 (fun _ => 0), x_it 4 (fun _ => 0), x_it 96 (fun _ => 0), x_it 4 (x_gr s x_G0 (x_N s)), .inr (0, [.ref 8, .ref 9, .ref 10, .ref 11, .ref 12]), x_it 256 x_P0, x_it 256 (fun _ => 0), x_it 4 (fun _ => 0), x_it 96 (fun _ => 0), x_it 4 (fun _ => 0), x_it 8 (x_idn 8), .inr (1, [.ref 15, .ref 16, .ref 17, .ref 18, .ref 19, .ref 20, .int 0, .int 0, .int 2147483647, .long 0, .int 0]), x_it 2304 (fun _ => 0), x_it 2304 (fun _ => 0), x_it 31 (fun _ => 0), x_it 48 (fun _ => 0), x_it 10 (fun _ => 0), x_it 10 (fun _ => 0), .inr (2, [.ref 22]), x_lg 24 (fun _ => 0), x_it 24 (fun _ => 0), x_it 24 (fun _ => 0)] ++ M : mm_H)) 4 ?_ ?_
    · skip
      refine mm_E.s rfl rfl rfl (fun _ => rfl) ?_
      refine mm_E.s rfl rfl rfl (fun _ => rfl) ?_
      refine mm_E.s rfl rfl rfl (fun _ => rfl) ?_
      refine mm_E.s rfl rfl rfl (fun _ => rfl) ?_
      refine mm_E.s rfl rfl rfl (fun _ => rfl) ?_
      refine mm_E.hc ([.inr (3, [.ref 1, .ref 7, .ref 13, .ref 14, .ref 21, .ref 23, .ref 24]), .inr (0, [.ref 2, .ref 3, .ref 4, .ref 5, .ref 6]), x_it 256 (x_pp s x_P0 0), x_it 256 (fun _ => 0), x_it 4 (fun _ => 0), x_it 96 (fun _ => 0), x_it 4 (x_gr s x_G0 (x_N s)), .inr (0, [.ref 8, .ref 9, .ref 10, .ref 11, .ref 12]), x_it 256 x_P0, x_it 256 (fun _ => 0), x_it 4 (fun _ => 0), x_it 96 (fun _ => 0), x_it 4 (fun _ => 0), x_it 8 (x_idn 8), .inr (1, [.ref 15, .ref 16, .ref 17, .ref 18, .ref 19, .ref 20, .int 0, .int 0, .int 2147483647, .long 0, .int 0]), x_it 2304 (fun _ => 0), x_it 2304 (fun _ => 0), x_it 31 (fun _ => 0), x_it 48 (fun _ => 0), x_it 10 (fun _ => 0), x_it 10 (fun _ => 0), .inr (2, [.ref 22]), x_lg 24 (fun _ => 0), x_it 24 (fun _ => 0), x_it 24 (fun _ => 0)] ++ M : mm_H) rfl ?_
      refine mm_E.loop (fun t => [some (.ref 1), some (.int (nI s)), some (.int (x_sm (x_gr s x_G0 (x_N s)) 4)), some (.int (x_fc s t))]) (fun t => ([.inr (3, [.ref 1, .ref 7, .ref 13, .ref 14, .ref 21, .ref 23, .ref 24]), .inr (0, [.ref 2, .ref 3, .ref 4, .ref 5, .ref 6]), x_it 256 (x_pp s x_P0 t), x_it 256 (fun _ => 0), x_it 4 (fun _ => 0), x_it 96 (fun _ => 0), x_it 4 (x_gr s x_G0 (x_N s)), .inr (0, [.ref 8, .ref 9, .ref 10, .ref 11, .ref 12]), x_it 256 x_P0, x_it 256 (fun _ => 0), x_it 4 (fun _ => 0), x_it 96 (fun _ => 0), x_it 4 (fun _ => 0), x_it 8 (x_idn 8), .inr (1, [.ref 15, .ref 16, .ref 17, .ref 18, .ref 19, .ref 20, .int 0, .int 0, .int 2147483647, .long 0, .int 0]), x_it 2304 (fun _ => 0), x_it 2304 (fun _ => 0), x_it 31 (fun _ => 0), x_it 48 (fun _ => 0), x_it 10 (fun _ => 0), x_it 10 (fun _ => 0), .inr (2, [.ref 22]), x_lg 24 (fun _ => 0), x_it 24 (fun _ => 0), x_it 24 (fun _ => 0)] ++ M : mm_H)) (x_N s) ?_ ?_
      · skip
        refine mm_E.s rfl rfl rfl (fun _ => rfl) ?_
        refine mm_E.s rfl rfl rfl (fun _ => if_pos hok.2.1) ?_
        refine mm_E.s rfl rfl rfl (fun _ => rfl) ?_
        refine mm_E.iv rfl rfl rfl rfl rfl rfl (z_num0 hnb) ?_
        refine mm_E.s rfl rfl rfl (fun _ => rfl) ?_
        exact mm_E.ret rfl rfl rfl
      · intro t ht ih
        refine mm_E.s rfl rfl rfl (fun _ => rfl) ?_
        refine mm_E.s rfl rfl rfl (fun _ => if_neg (hok.1 t ht).1) ?_
        refine mm_E.s rfl rfl rfl (fun _ => rfl) ?_
        refine mm_E.gf rfl rfl rfl rfl rfl ?_
        refine mm_E.s rfl rfl rfl (fun _ => rfl) ?_
        refine mm_E.s rfl rfl rfl (fun _ => rfl) ?_
        refine mm_E.is rfl rfl rfl (hok.1 t ht).2.1 rfl ?_
        refine mm_E.s rfl rfl rfl (fun _ => rfl) ?_
        refine mm_E.s rfl rfl rfl (fun _ => rfl) ?_
        refine mm_E.s rfl rfl rfl (fun _ => rfl) ?_
        refine mm_E.s rfl rfl rfl (fun _ => rfl) ?_
        refine mm_E.s rfl rfl rfl (fun _ => rfl) ?_
        refine mm_E.s rfl rfl rfl (fun _ => rfl) ?_
        refine mm_E.s rfl rfl rfl (fun _ => rfl) ?_
        exact ih
    · intro k hk ih
      rw [← nI_1] at ih
      refine mm_E.s rfl rfl rfl (fun _ => rfl) ?_
      refine mm_E.s rfl rfl rfl (fun _ => rfl) ?_
      refine mm_E.s rfl rfl rfl (fun _ => if_neg (nI_ge (a := k) (b := 4) (by omega) (by decide))) ?_
      refine mm_E.s rfl rfl rfl (fun _ => rfl) ?_
      refine mm_E.gf rfl rfl rfl rfl rfl ?_
      refine mm_E.s rfl rfl rfl (fun _ => rfl) ?_
      refine mm_E.ia rfl rfl rfl (mm_bd (by omega) (by decide)) (v := 0) rfl ?_
      refine mm_E.s rfl rfl rfl (fun _ => rfl) ?_
      refine mm_E.gf rfl rfl rfl rfl rfl ?_
      refine mm_E.s rfl rfl rfl (fun _ => rfl) ?_
      refine mm_E.ia rfl rfl rfl (mm_bd (by omega) (by decide)) (v := (x_gr s x_G0 (x_N s)) k) (by rw [mm_cl (by omega)]) ?_
      refine mm_E.s rfl rfl rfl (fun _ => rfl) ?_
      refine mm_E.s rfl rfl rfl (fun _ => rfl) ?_
      refine mm_E.s rfl rfl rfl (fun _ => if_pos (hok.2.2.1 k hk)) ?_
      refine mm_E.s rfl rfl rfl (fun _ => rfl) ?_
      refine mm_E.s rfl rfl rfl (fun _ => rfl) ?_
      refine mm_E.gf rfl rfl rfl rfl rfl ?_
      refine mm_E.s rfl rfl rfl (fun _ => rfl) ?_
      refine mm_E.ia rfl rfl rfl (mm_bd (by omega) (by decide)) (v := (x_gr s x_G0 (x_N s)) k) (by rw [mm_cl (by omega)]) ?_
      refine mm_E.s rfl rfl rfl (fun _ => rfl) ?_
      refine mm_E.s rfl rfl rfl (fun _ => rfl) ?_
      refine mm_E.s rfl rfl rfl (fun _ => rfl) ?_
      refine mm_E.s rfl rfl rfl (fun _ => rfl) ?_
      exact ih
  · intro t ht ih
    refine mm_E.s rfl rfl rfl (fun _ => rfl) ?_
    refine mm_E.s rfl rfl rfl (fun _ => if_neg (hok.1 t ht).1) ?_
    refine mm_E.s rfl rfl rfl (fun _ => rfl) ?_
    refine mm_E.gf rfl rfl rfl rfl rfl ?_
    refine mm_E.s rfl rfl rfl (fun _ => rfl) ?_
    refine mm_E.ia rfl rfl rfl (hok.1 t ht).2.1 (v := -1) (x_P0_at (hok.1 t ht).2.1) ?_
    refine mm_E.s rfl rfl rfl (fun _ => rfl) ?_
    refine mm_E.s rfl rfl rfl (fun _ => rfl) ?_
    refine mm_E.s rfl rfl rfl (fun _ => rfl) ?_
    refine mm_E.gf rfl rfl rfl rfl rfl ?_
    refine mm_E.s rfl rfl rfl (fun _ => rfl) ?_
    refine mm_E.ic rfl rfl rfl rfl rfl (z_dm _) ?_
    refine mm_E.s rfl rfl rfl (fun _ => rfl) ?_
    refine mm_E.ia rfl rfl rfl (hok.1 t ht).2.2 rfl ?_
    refine mm_E.s rfl rfl rfl (fun _ => rfl) ?_
    refine mm_E.s rfl rfl rfl (fun _ => rfl) ?_
    refine mm_E.is rfl rfl rfl (hok.1 t ht).2.2 rfl ?_
    refine mm_E.s rfl rfl rfl (fun _ => rfl) ?_
    refine mm_E.s rfl rfl rfl (fun _ => rfl) ?_
    refine mm_E.s rfl rfl rfl (fun _ => rfl) ?_
    refine mm_E.s rfl rfl rfl (fun _ => rfl) ?_
    refine mm_E.s rfl rfl rfl (fun _ => rfl) ?_
    refine mm_E.s rfl rfl rfl (fun _ => rfl) ?_
    refine mm_E.s rfl rfl rfl (fun _ => rfl) ?_
    exact ih

theorem z_add0 {M : mm_H} (hM : x_eM M) {s : Nat} (hs1 : 1 ≤ s) (hs : s < 256) (h4 : x_bc (nI s) ≤ 4) (hok : x_ok s) : ∃ h', mm_EC kM 34 [.ref 0, .int 0, .int (nI s)] ([.inr (3, [.ref 1, .ref 7, .ref 13, .ref 14, .ref 21, .ref 23, .ref 24]), .inr (0, [.ref 2, .ref 3, .ref 4, .ref 5, .ref 6]), x_it 256 x_P0, x_it 256 (fun _ => 0), x_it 4 (fun _ => 0), x_it 96 (fun _ => 0), x_it 4 (fun _ => 0), .inr (0, [.ref 8, .ref 9, .ref 10, .ref 11, .ref 12]), x_it 256 x_P0, x_it 256 (fun _ => 0), x_it 4 (fun _ => 0), x_it 96 (fun _ => 0), x_it 4 (fun _ => 0), x_it 8 (x_idn 8), .inr (1, [.ref 15, .ref 16, .ref 17, .ref 18, .ref 19, .ref 20, .int 0, .int 0, .int 2147483647, .long 0, .int 0]), x_it 2304 (fun _ => 0), x_it 2304 (fun _ => 0), x_it 31 (fun _ => 0), x_it 48 (fun _ => 0), x_it 10 (fun _ => 0), x_it 10 (fun _ => 0), .inr (2, [.ref 22]), x_lg 24 (fun _ => 0), x_it 24 (fun _ => 0), x_it 24 (fun _ => 0)] ++ M : mm_H) (some (.int (x_mr s s)), h') ∧ x_em h' 0 0 0 := by
  have hE := z_fresh hM
  refine ⟨_, ⟨kq_34, rfl, rfl, ?_⟩, hM [.inr (3, [.ref 1, .ref 7, .ref 13, .ref 14, .ref 21, .ref 23, .ref 24]), .inr (0, [.ref 2, .ref 3, .ref 4, .ref 5, .ref 6]), x_it 256 (x_na (x_pp s x_P0 (x_N s)) (x_fill (fun _ => 0) 0 4) (fun _ => 0) 255).1, x_it 256 (fun _ => 0), x_it 4 (x_na (x_pp s x_P0 (x_N s)) (x_fill (fun _ => 0) 0 4) (fun _ => 0) 255).2.1, x_it 96 (x_na (x_pp s x_P0 (x_N s)) (x_fill (fun _ => 0) 0 4) (fun _ => 0) 255).2.2, x_it 4 (x_gr s x_G0 (x_N s)), .inr (0, [.ref 8, .ref 9, .ref 10, .ref 11, .ref 12]), x_it 256 x_P0, x_it 256 (fun _ => 0), x_it 4 (fun _ => 0), x_it 96 (fun _ => 0), x_it 4 (fun _ => 0), x_it 8 (x_idn 8), .inr (1, [.ref 15, .ref 16, .ref 17, .ref 18, .ref 19, .ref 20, .int 0, .int 0, .int 2147483647, .long 0, .int 0]), x_it 2304 (fun _ => 0), x_it 2304 (fun _ => 0), x_it 31 (fun _ => 0), x_it 48 (fun _ => 0), x_it 10 (fun _ => 0), x_it 10 (fun _ => 0), .inr (2, [.ref 22]), x_lg 24 (fun _ => 0), x_it 24 (fun _ => 0), x_it 24 (fun _ => 0)] rfl⟩
  refine mm_E.s rfl rfl rfl (fun _ => rfl) ?_
  refine mm_E.s rfl rfl rfl (fun _ => rfl) ?_
  refine mm_E.iv rfl rfl rfl rfl rfl rfl (z_cx0 hE) ?_
  refine mm_E.s rfl rfl rfl (fun _ => rfl) ?_
  refine mm_E.s rfl rfl rfl (fun _ => rfl) ?_
  refine mm_E.s rfl rfl rfl (fun _ => rfl) ?_
  refine mm_E.s rfl rfl rfl (fun _ => rfl) ?_
  refine mm_E.s rfl rfl rfl (fun _ => rfl) ?_
  refine mm_E.s rfl rfl rfl (fun _ => if_neg (nI_nlt (a := s) (b := 1) (by omega) (by omega))) ?_
  refine mm_E.s rfl rfl rfl (fun _ => rfl) ?_
  refine mm_E.s rfl rfl rfl (fun _ => rfl) ?_
  refine mm_E.s rfl rfl rfl (fun _ => if_neg (nI_ge (a := s) (b := 256) (by omega) (by decide))) ?_
  refine mm_E.s rfl rfl rfl (fun _ => rfl) ?_
  refine mm_E.ic rfl rfl rfl rfl rfl (z_bc _) ?_
  refine mm_E.s rfl rfl rfl (fun _ => rfl) ?_
  refine mm_E.s rfl rfl rfl (fun _ => if_pos h4) ?_
  refine mm_E.s rfl rfl rfl (fun _ => rfl) ?_
  refine mm_E.s rfl rfl rfl (fun _ => rfl) ?_
  refine mm_E.iv rfl rfl rfl rfl rfl rfl (z_inc0 hs1 hs hok) ?_
  exact mm_E.ret rfl rfl rfl

set_option maxHeartbeats 4000000 in
theorem z_inc1 {M : mm_H} {s : Nat} (hs1 : 1 ≤ s) (hs : s < 256) (hok : x_ok s) : mm_EC kM 10 [.ref 7, .int (nI s)] ([.inr (3, [.ref 1, .ref 7, .ref 13, .ref 14, .ref 21, .ref 23, .ref 24]), .inr (0, [.ref 2, .ref 3, .ref 4, .ref 5, .ref 6]), x_it 256 x_P0, x_it 256 (fun _ => 0), x_it 4 (fun _ => 0), x_it 96 (fun _ => 0), x_it 4 (fun _ => 0), .inr (0, [.ref 8, .ref 9, .ref 10, .ref 11, .ref 12]), x_it 256 x_P0, x_it 256 (fun _ => 0), x_it 4 (fun _ => 0), x_it 96 (fun _ => 0), x_it 4 (fun _ => 0), x_it 8 (x_idn 8), .inr (1, [.ref 15, .ref 16, .ref 17, .ref 18, .ref 19, .ref 20, .int 0, .int 0, .int 2147483647, .long 0, .int 0]), x_it 2304 (fun _ => 0), x_it 2304 (fun _ => 0), x_it 31 (fun _ => 0), x_it 48 (fun _ => 0), x_it 10 (fun _ => 0), x_it 10 (fun _ => 0), .inr (2, [.ref 22]), x_lg 24 (fun _ => 0), x_it 24 (fun _ => 0), x_it 24 (fun _ => 0)] ++ M : mm_H) (some (.int (x_mr s s)), ([.inr (3, [.ref 1, .ref 7, .ref 13, .ref 14, .ref 21, .ref 23, .ref 24]), .inr (0, [.ref 2, .ref 3, .ref 4, .ref 5, .ref 6]), x_it 256 x_P0, x_it 256 (fun _ => 0), x_it 4 (fun _ => 0), x_it 96 (fun _ => 0), x_it 4 (fun _ => 0), .inr (0, [.ref 8, .ref 9, .ref 10, .ref 11, .ref 12]), x_it 256 (x_na (x_pp s x_P0 (x_N s)) (x_fill (fun _ => 0) 0 4) (fun _ => 0) 255).1, x_it 256 (fun _ => 0), x_it 4 (x_na (x_pp s x_P0 (x_N s)) (x_fill (fun _ => 0) 0 4) (fun _ => 0) 255).2.1, x_it 96 (x_na (x_pp s x_P0 (x_N s)) (x_fill (fun _ => 0) 0 4) (fun _ => 0) 255).2.2, x_it 4 (x_gr s x_G0 (x_N s)), x_it 8 (x_idn 8), .inr (1, [.ref 15, .ref 16, .ref 17, .ref 18, .ref 19, .ref 20, .int 0, .int 0, .int 2147483647, .long 0, .int 0]), x_it 2304 (fun _ => 0), x_it 2304 (fun _ => 0), x_it 31 (fun _ => 0), x_it 48 (fun _ => 0), x_it 10 (fun _ => 0), x_it 10 (fun _ => 0), .inr (2, [.ref 22]), x_lg 24 (fun _ => 0), x_it 24 (fun _ => 0), x_it 24 (fun _ => 0)] ++ M : mm_H)) := by
  rw [← hok.2.2.2.1]
  have hnb : x_nb (x_pp s x_P0 (x_N s)) (x_fill (fun _ => 0) 0 4) (fun _ => 0) := x_nb_of hok.2.2.2.2.1 x_fz hok.2.2.2.2.2.1
  refine ⟨kq_10, rfl, rfl, ?_⟩
  refine mm_E.s rfl rfl rfl (fun _ => rfl) ?_
  refine mm_E.gf rfl rfl rfl rfl rfl ?_
  refine mm_E.s rfl rfl rfl (fun _ => rfl) ?_
  refine mm_E.ic rfl rfl rfl rfl rfl (x_fill_EC rfl (by decide)) ?_
  refine mm_E.s rfl rfl rfl (fun _ => rfl) ?_
  refine mm_E.s rfl rfl rfl (fun _ => rfl) ?_
  refine mm_E.hc ([.inr (3, [.ref 1, .ref 7, .ref 13, .ref 14, .ref 21, .ref 23, .ref 24]), .inr (0, [.ref 2, .ref 3, .ref 4, .ref 5, .ref 6]), x_it 256 x_P0, x_it 256 (fun _ => 0), x_it 4 (fun _ => 0), x_it 96 (fun _ => 0), x_it 4 (fun _ => 0), .inr (0, [.ref 8, .ref 9, .ref 10, .ref 11, .ref 12]), x_it 256 x_P0, x_it 256 (fun _ => 0), x_it 4 (fun _ => 0), x_it 96 (fun _ => 0), x_it 4 (x_gr s x_G0 0), x_it 8 (x_idn 8), .inr (1, [.ref 15, .ref 16, .ref 17, .ref 18, .ref 19, .ref 20, .int 0, .int 0, .int 2147483647, .long 0, .int 0]), x_it 2304 (fun _ => 0), x_it 2304 (fun _ => 0), x_it 31 (fun _ => 0), x_it 48 (fun _ => 0), x_it 10 (fun _ => 0), x_it 10 (fun _ => 0), .inr (2, [.ref 22]), x_lg 24 (fun _ => 0), x_it 24 (fun _ => 0), x_it 24 (fun _ => 0)] ++ M : mm_H) rfl ?_
  refine mm_E.loop (fun t => [some (.ref 7), some (.int (nI s)), some (.int (x_fc s t)), none]) (fun t => ([.inr (3, [.ref 1, .ref 7, .ref 13, .ref 14, .ref 21, .ref 23, .ref 24]), .inr (0, [.ref 2, .ref 3, .ref 4, .ref 5, .ref 6]), x_it 256 x_P0, x_it 256 (fun _ => 0), x_it 4 (fun _ => 0), x_it 96 (fun _ => 0), x_it 4 (fun _ => 0), .inr (0, [.ref 8, .ref 9, .ref 10, .ref 11, .ref 12]), x_it 256 x_P0, x_it 256 (fun _ => 0), x_it 4 (fun _ => 0), x_it 96 (fun _ => 0), x_it 4 (x_gr s x_G0 t), x_it 8 (x_idn 8), .inr (1, [.ref 15, .ref 16, .ref 17, .ref 18, .ref 19, .ref 20, .int 0, .int 0, .int 2147483647, .long 0, .int 0]), x_it 2304 (fun _ => 0), x_it 2304 (fun _ => 0), x_it 31 (fun _ => 0), x_it 48 (fun _ => 0), x_it 10 (fun _ => 0), x_it 10 (fun _ => 0), .inr (2, [.ref 22]), x_lg 24 (fun _ => 0), x_it 24 (fun _ => 0), x_it 24 (fun _ => 0)] ++ M : mm_H)) (x_N s) ?_ ?_
  · skip
    refine mm_E.s rfl rfl rfl (fun _ => rfl) ?_
    refine mm_E.s rfl rfl rfl (fun _ => if_pos hok.2.1) ?_
    refine mm_E.s rfl rfl rfl (fun _ => rfl) ?_
    refine mm_E.s rfl rfl rfl (fun _ => rfl) ?_
    refine mm_E.s rfl rfl rfl (fun _ => rfl) ?_
    refine mm_E.s rfl rfl rfl (fun _ => rfl) ?_
    refine mm_E.loop (fun k => [some (.ref 7), some (.int (nI s)), some (.int (x_sm (x_gr s x_G0 (x_N s)) k)), some (.int (nI k))]) (fun _ => ([.inr (3, [.ref 1, .ref 7, .ref 13, .ref 14, .ref 21, .ref 23, .ref 24]), .inr (0, [.ref 2, .ref 3, .ref 4, .ref 5, .ref 6]), x_it 256 x_P0, x_it 256 (fun _ => 0), x_it 4 (fun _ => 0), x_it 96 (fun _ => 0), x_it 4 (fun _ => 0), .inr (0, [.ref 8, .ref 9, .ref 10, .ref 11, .ref 12]), x_it 256 x_P0, x_it 256 (fun _ => 0), x_it 4 (fun _ => 0), x_it 96 (fun _ => 0), x_it 4 (x_gr s x_G0 (x_N s)), x_it 8 (x_idn 8), .inr (1, [.ref 15, .ref 16, .ref 17, .ref 18, .ref 19, .ref 20, .int 0, .int 0, .int 2147483647, .long 0, .int 0]), x_it 2304 (fun _ => 0), x_it 2304 (fun _ => 0), x_it 31 (fun _ => 0), x_it 48 (fun _ => 0), x_it 10 (fun _ => 0), x_it 10 (fun _ => 0), .inr (2, [.ref 22]), x_lg 24 (fun _ => 0), x_it 24 (fun _ => 0), x_it 24 (fun _ => 0)] ++ M : mm_H)) 4 ?_ ?_
    · skip
      refine mm_E.s rfl rfl rfl (fun _ => rfl) ?_
      refine mm_E.s rfl rfl rfl (fun _ => rfl) ?_
      refine mm_E.s rfl rfl rfl (fun _ => rfl) ?_
      refine mm_E.s rfl rfl rfl (fun _ => rfl) ?_
      refine mm_E.s rfl rfl rfl (fun _ => rfl) ?_
      refine mm_E.hc ([.inr (3, [.ref 1, .ref 7, .ref 13, .ref 14, .ref 21, .ref 23, .ref 24]), .inr (0, [.ref 2, .ref 3, .ref 4, .ref 5, .ref 6]), x_it 256 x_P0, x_it 256 (fun _ => 0), x_it 4 (fun _ => 0), x_it 96 (fun _ => 0), x_it 4 (fun _ => 0), .inr (0, [.ref 8, .ref 9, .ref 10, .ref 11, .ref 12]), x_it 256 (x_pp s x_P0 0), x_it 256 (fun _ => 0), x_it 4 (fun _ => 0), x_it 96 (fun _ => 0), x_it 4 (x_gr s x_G0 (x_N s)), x_it 8 (x_idn 8), .inr (1, [.ref 15, .ref 16, .ref 17, .ref 18, .ref 19, .ref 20, .int 0, .int 0, .int 2147483647, .long 0, .int 0]), x_it 2304 (fun _ => 0), x_it 2304 (fun _ => 0), x_it 31 (fun _ => 0), x_it 48 (fun _ => 0), x_it 10 (fun _ => 0), x_it 10 (fun _ => 0), .inr (2, [.ref 22]), x_lg 24 (fun _ => 0), x_it 24 (fun _ => 0), x_it 24 (fun _ => 0)] ++ M : mm_H) rfl ?_
      refine mm_E.loop (fun t => [some (.ref 7), some (.int (nI s)), some (.int (x_sm (x_gr s x_G0 (x_N s)) 4)), some (.int (x_fc s t))]) (fun t => ([.inr (3, [.ref 1, .ref 7, .ref 13, .ref 14, .ref 21, .ref 23, .ref 24]), .inr (0, [.ref 2, .ref 3, .ref 4, .ref 5, .ref 6]), x_it 256 x_P0, x_it 256 (fun _ => 0), x_it 4 (fun _ => 0), x_it 96 (fun _ => 0), x_it 4 (fun _ => 0), .inr (0, [.ref 8, .ref 9, .ref 10, .ref 11, .ref 12]), x_it 256 (x_pp s x_P0 t), x_it 256 (fun _ => 0), x_it 4 (fun _ => 0), x_it 96 (fun _ => 0), x_it 4 (x_gr s x_G0 (x_N s)), x_it 8 (x_idn 8), .inr (1, [.ref 15, .ref 16, .ref 17, .ref 18, .ref 19, .ref 20, .int 0, .int 0, .int 2147483647, .long 0, .int 0]), x_it 2304 (fun _ => 0), x_it 2304 (fun _ => 0), x_it 31 (fun _ => 0), x_it 48 (fun _ => 0), x_it 10 (fun _ => 0), x_it 10 (fun _ => 0), .inr (2, [.ref 22]), x_lg 24 (fun _ => 0), x_it 24 (fun _ => 0), x_it 24 (fun _ => 0)] ++ M : mm_H)) (x_N s) ?_ ?_
      · skip
        refine mm_E.s rfl rfl rfl (fun _ => rfl) ?_
        refine mm_E.s rfl rfl rfl (fun _ => if_pos hok.2.1) ?_
        refine mm_E.s rfl rfl rfl (fun _ => rfl) ?_
        refine mm_E.iv rfl rfl rfl rfl rfl rfl (z_num1 hnb) ?_
        refine mm_E.s rfl rfl rfl (fun _ => rfl) ?_
        exact mm_E.ret rfl rfl rfl
      · intro t ht ih
        refine mm_E.s rfl rfl rfl (fun _ => rfl) ?_
        refine mm_E.s rfl rfl rfl (fun _ => if_neg (hok.1 t ht).1) ?_
        refine mm_E.s rfl rfl rfl (fun _ => rfl) ?_
        refine mm_E.gf rfl rfl rfl rfl rfl ?_
        refine mm_E.s rfl rfl rfl (fun _ => rfl) ?_
        refine mm_E.s rfl rfl rfl (fun _ => rfl) ?_
        refine mm_E.is rfl rfl rfl (hok.1 t ht).2.1 rfl ?_
        refine mm_E.s rfl rfl rfl (fun _ => rfl) ?_
        refine mm_E.s rfl rfl rfl (fun _ => rfl) ?_
        refine mm_E.s rfl rfl rfl (fun _ => rfl) ?_
        refine mm_E.s rfl rfl rfl (fun _ => rfl) ?_
        refine mm_E.s rfl rfl rfl (fun _ => rfl) ?_
        refine mm_E.s rfl rfl rfl (fun _ => rfl) ?_
        refine mm_E.s rfl rfl rfl (fun _ => rfl) ?_
        exact ih
    · intro k hk ih
      rw [← nI_1] at ih
      refine mm_E.s rfl rfl rfl (fun _ => rfl) ?_
      refine mm_E.s rfl rfl rfl (fun _ => rfl) ?_
      refine mm_E.s rfl rfl rfl (fun _ => if_neg (nI_ge (a := k) (b := 4) (by omega) (by decide))) ?_
      refine mm_E.s rfl rfl rfl (fun _ => rfl) ?_
      refine mm_E.gf rfl rfl rfl rfl rfl ?_
      refine mm_E.s rfl rfl rfl (fun _ => rfl) ?_
      refine mm_E.ia rfl rfl rfl (mm_bd (by omega) (by decide)) (v := 0) rfl ?_
      refine mm_E.s rfl rfl rfl (fun _ => rfl) ?_
      refine mm_E.gf rfl rfl rfl rfl rfl ?_
      refine mm_E.s rfl rfl rfl (fun _ => rfl) ?_
      refine mm_E.ia rfl rfl rfl (mm_bd (by omega) (by decide)) (v := (x_gr s x_G0 (x_N s)) k) (by rw [mm_cl (by omega)]) ?_
      refine mm_E.s rfl rfl rfl (fun _ => rfl) ?_
      refine mm_E.s rfl rfl rfl (fun _ => rfl) ?_
      refine mm_E.s rfl rfl rfl (fun _ => if_pos (hok.2.2.1 k hk)) ?_
      refine mm_E.s rfl rfl rfl (fun _ => rfl) ?_
      refine mm_E.s rfl rfl rfl (fun _ => rfl) ?_
      refine mm_E.gf rfl rfl rfl rfl rfl ?_
      refine mm_E.s rfl rfl rfl (fun _ => rfl) ?_
      refine mm_E.ia rfl rfl rfl (mm_bd (by omega) (by decide)) (v := (x_gr s x_G0 (x_N s)) k) (by rw [mm_cl (by omega)]) ?_
      refine mm_E.s rfl rfl rfl (fun _ => rfl) ?_
      refine mm_E.s rfl rfl rfl (fun _ => rfl) ?_
      refine mm_E.s rfl rfl rfl (fun _ => rfl) ?_
      refine mm_E.s rfl rfl rfl (fun _ => rfl) ?_
      exact ih
  · intro t ht ih
    refine mm_E.s rfl rfl rfl (fun _ => rfl) ?_
    refine mm_E.s rfl rfl rfl (fun _ => if_neg (hok.1 t ht).1) ?_
    refine mm_E.s rfl rfl rfl (fun _ => rfl) ?_
    refine mm_E.gf rfl rfl rfl rfl rfl ?_
    refine mm_E.s rfl rfl rfl (fun _ => rfl) ?_
    refine mm_E.ia rfl rfl rfl (hok.1 t ht).2.1 (v := -1) (x_P0_at (hok.1 t ht).2.1) ?_
    refine mm_E.s rfl rfl rfl (fun _ => rfl) ?_
    refine mm_E.s rfl rfl rfl (fun _ => rfl) ?_
    refine mm_E.s rfl rfl rfl (fun _ => rfl) ?_
    refine mm_E.gf rfl rfl rfl rfl rfl ?_
    refine mm_E.s rfl rfl rfl (fun _ => rfl) ?_
    refine mm_E.ic rfl rfl rfl rfl rfl (z_dm _) ?_
    refine mm_E.s rfl rfl rfl (fun _ => rfl) ?_
    refine mm_E.ia rfl rfl rfl (hok.1 t ht).2.2 rfl ?_
    refine mm_E.s rfl rfl rfl (fun _ => rfl) ?_
    refine mm_E.s rfl rfl rfl (fun _ => rfl) ?_
    refine mm_E.is rfl rfl rfl (hok.1 t ht).2.2 rfl ?_
    refine mm_E.s rfl rfl rfl (fun _ => rfl) ?_
    refine mm_E.s rfl rfl rfl (fun _ => rfl) ?_
    refine mm_E.s rfl rfl rfl (fun _ => rfl) ?_
    refine mm_E.s rfl rfl rfl (fun _ => rfl) ?_
    refine mm_E.s rfl rfl rfl (fun _ => rfl) ?_
    refine mm_E.s rfl rfl rfl (fun _ => rfl) ?_
    refine mm_E.s rfl rfl rfl (fun _ => rfl) ?_
    exact ih

theorem z_add1 {M : mm_H} (hM : x_eM M) {s : Nat} (hs1 : 1 ≤ s) (hs : s < 256) (h4 : x_bc (nI s) ≤ 4) (hok : x_ok s) : ∃ h', mm_EC kM 34 [.ref 0, .int 1, .int (nI s)] ([.inr (3, [.ref 1, .ref 7, .ref 13, .ref 14, .ref 21, .ref 23, .ref 24]), .inr (0, [.ref 2, .ref 3, .ref 4, .ref 5, .ref 6]), x_it 256 x_P0, x_it 256 (fun _ => 0), x_it 4 (fun _ => 0), x_it 96 (fun _ => 0), x_it 4 (fun _ => 0), .inr (0, [.ref 8, .ref 9, .ref 10, .ref 11, .ref 12]), x_it 256 x_P0, x_it 256 (fun _ => 0), x_it 4 (fun _ => 0), x_it 96 (fun _ => 0), x_it 4 (fun _ => 0), x_it 8 (x_idn 8), .inr (1, [.ref 15, .ref 16, .ref 17, .ref 18, .ref 19, .ref 20, .int 0, .int 0, .int 2147483647, .long 0, .int 0]), x_it 2304 (fun _ => 0), x_it 2304 (fun _ => 0), x_it 31 (fun _ => 0), x_it 48 (fun _ => 0), x_it 10 (fun _ => 0), x_it 10 (fun _ => 0), .inr (2, [.ref 22]), x_lg 24 (fun _ => 0), x_it 24 (fun _ => 0), x_it 24 (fun _ => 0)] ++ M : mm_H) (some (.int (x_mr s s)), h') ∧ x_em h' 0 0 0 := by
  have hE := z_fresh hM
  refine ⟨_, ⟨kq_34, rfl, rfl, ?_⟩, hM [.inr (3, [.ref 1, .ref 7, .ref 13, .ref 14, .ref 21, .ref 23, .ref 24]), .inr (0, [.ref 2, .ref 3, .ref 4, .ref 5, .ref 6]), x_it 256 x_P0, x_it 256 (fun _ => 0), x_it 4 (fun _ => 0), x_it 96 (fun _ => 0), x_it 4 (fun _ => 0), .inr (0, [.ref 8, .ref 9, .ref 10, .ref 11, .ref 12]), x_it 256 (x_na (x_pp s x_P0 (x_N s)) (x_fill (fun _ => 0) 0 4) (fun _ => 0) 255).1, x_it 256 (fun _ => 0), x_it 4 (x_na (x_pp s x_P0 (x_N s)) (x_fill (fun _ => 0) 0 4) (fun _ => 0) 255).2.1, x_it 96 (x_na (x_pp s x_P0 (x_N s)) (x_fill (fun _ => 0) 0 4) (fun _ => 0) 255).2.2, x_it 4 (x_gr s x_G0 (x_N s)), x_it 8 (x_idn 8), .inr (1, [.ref 15, .ref 16, .ref 17, .ref 18, .ref 19, .ref 20, .int 0, .int 0, .int 2147483647, .long 0, .int 0]), x_it 2304 (fun _ => 0), x_it 2304 (fun _ => 0), x_it 31 (fun _ => 0), x_it 48 (fun _ => 0), x_it 10 (fun _ => 0), x_it 10 (fun _ => 0), .inr (2, [.ref 22]), x_lg 24 (fun _ => 0), x_it 24 (fun _ => 0), x_it 24 (fun _ => 0)] rfl⟩
  refine mm_E.s rfl rfl rfl (fun _ => rfl) ?_
  refine mm_E.s rfl rfl rfl (fun _ => rfl) ?_
  refine mm_E.iv rfl rfl rfl rfl rfl rfl (z_cx1 hE) ?_
  refine mm_E.s rfl rfl rfl (fun _ => rfl) ?_
  refine mm_E.s rfl rfl rfl (fun _ => rfl) ?_
  refine mm_E.s rfl rfl rfl (fun _ => rfl) ?_
  refine mm_E.s rfl rfl rfl (fun _ => rfl) ?_
  refine mm_E.s rfl rfl rfl (fun _ => rfl) ?_
  refine mm_E.s rfl rfl rfl (fun _ => if_neg (nI_nlt (a := s) (b := 1) (by omega) (by omega))) ?_
  refine mm_E.s rfl rfl rfl (fun _ => rfl) ?_
  refine mm_E.s rfl rfl rfl (fun _ => rfl) ?_
  refine mm_E.s rfl rfl rfl (fun _ => if_neg (nI_ge (a := s) (b := 256) (by omega) (by decide))) ?_
  refine mm_E.s rfl rfl rfl (fun _ => rfl) ?_
  refine mm_E.ic rfl rfl rfl rfl rfl (z_bc _) ?_
  refine mm_E.s rfl rfl rfl (fun _ => rfl) ?_
  refine mm_E.s rfl rfl rfl (fun _ => if_pos h4) ?_
  refine mm_E.s rfl rfl rfl (fun _ => rfl) ?_
  refine mm_E.s rfl rfl rfl (fun _ => rfl) ?_
  refine mm_E.iv rfl rfl rfl rfl rfl rfl (z_inc1 hs1 hs hok) ?_
  exact mm_E.ret rfl rfl rfl

theorem z_addB {h : mm_H} {ro co : Int32} {mi : Int64} {ki : Int32} (hE : x_e0 h ro co mi ki) {c s : Int32} (hb : ¬ ((c = 0 ∨ c = 1) ∧ ¬ s < 1 ∧ ¬ 256 ≤ s ∧ x_bc s ≤ 4)) : mm_EC kM 34 [.ref 0, .int c, .int s] h (some (.int (-1)), h) := by
  obtain ⟨fx, hx, hx1, hx7, hx14, hx21⟩ := z_x0 hE
  refine ⟨kq_34, rfl, rfl, ?_⟩
  by_cases hc : c = 0 ∨ c = 1
  · by_cases h1 : s < 1
    · rcases hc with rfl | rfl
      · skip
        refine mm_E.s rfl rfl rfl (fun _ => rfl) ?_
        refine mm_E.s rfl rfl rfl (fun _ => rfl) ?_
        refine mm_E.iv rfl rfl rfl rfl hx rfl (z_cx0 hE) ?_
        refine mm_E.s rfl rfl rfl (fun _ => rfl) ?_
        refine mm_E.s rfl rfl rfl (fun _ => rfl) ?_
        refine mm_E.s rfl rfl rfl (fun _ => rfl) ?_
        refine mm_E.s rfl rfl rfl (fun _ => rfl) ?_
        refine mm_E.s rfl rfl rfl (fun _ => rfl) ?_
        refine mm_E.s rfl rfl rfl (fun _ => if_pos h1) ?_
        refine mm_E.s rfl rfl rfl (fun _ => rfl) ?_
        exact mm_E.ret rfl rfl rfl
      · skip
        refine mm_E.s rfl rfl rfl (fun _ => rfl) ?_
        refine mm_E.s rfl rfl rfl (fun _ => rfl) ?_
        refine mm_E.iv rfl rfl rfl rfl hx rfl (z_cx1 hE) ?_
        refine mm_E.s rfl rfl rfl (fun _ => rfl) ?_
        refine mm_E.s rfl rfl rfl (fun _ => rfl) ?_
        refine mm_E.s rfl rfl rfl (fun _ => rfl) ?_
        refine mm_E.s rfl rfl rfl (fun _ => rfl) ?_
        refine mm_E.s rfl rfl rfl (fun _ => rfl) ?_
        refine mm_E.s rfl rfl rfl (fun _ => if_pos h1) ?_
        refine mm_E.s rfl rfl rfl (fun _ => rfl) ?_
        exact mm_E.ret rfl rfl rfl
    · by_cases h2 : 256 ≤ s
      · rcases hc with rfl | rfl
        · skip
          refine mm_E.s rfl rfl rfl (fun _ => rfl) ?_
          refine mm_E.s rfl rfl rfl (fun _ => rfl) ?_
          refine mm_E.iv rfl rfl rfl rfl hx rfl (z_cx0 hE) ?_
          refine mm_E.s rfl rfl rfl (fun _ => rfl) ?_
          refine mm_E.s rfl rfl rfl (fun _ => rfl) ?_
          refine mm_E.s rfl rfl rfl (fun _ => rfl) ?_
          refine mm_E.s rfl rfl rfl (fun _ => rfl) ?_
          refine mm_E.s rfl rfl rfl (fun _ => rfl) ?_
          refine mm_E.s rfl rfl rfl (fun _ => if_neg h1) ?_
          refine mm_E.s rfl rfl rfl (fun _ => rfl) ?_
          refine mm_E.s rfl rfl rfl (fun _ => rfl) ?_
          refine mm_E.s rfl rfl rfl (fun _ => if_pos h2) ?_
          refine mm_E.s rfl rfl rfl (fun _ => rfl) ?_
          exact mm_E.ret rfl rfl rfl
        · skip
          refine mm_E.s rfl rfl rfl (fun _ => rfl) ?_
          refine mm_E.s rfl rfl rfl (fun _ => rfl) ?_
          refine mm_E.iv rfl rfl rfl rfl hx rfl (z_cx1 hE) ?_
          refine mm_E.s rfl rfl rfl (fun _ => rfl) ?_
          refine mm_E.s rfl rfl rfl (fun _ => rfl) ?_
          refine mm_E.s rfl rfl rfl (fun _ => rfl) ?_
          refine mm_E.s rfl rfl rfl (fun _ => rfl) ?_
          refine mm_E.s rfl rfl rfl (fun _ => rfl) ?_
          refine mm_E.s rfl rfl rfl (fun _ => if_neg h1) ?_
          refine mm_E.s rfl rfl rfl (fun _ => rfl) ?_
          refine mm_E.s rfl rfl rfl (fun _ => rfl) ?_
          refine mm_E.s rfl rfl rfl (fun _ => if_pos h2) ?_
          refine mm_E.s rfl rfl rfl (fun _ => rfl) ?_
          exact mm_E.ret rfl rfl rfl
      · have h4 : ¬ x_bc s ≤ 4 := fun q => hb ⟨hc, h1, h2, q⟩
        rcases hc with rfl | rfl
        · skip
          refine mm_E.s rfl rfl rfl (fun _ => rfl) ?_
          refine mm_E.s rfl rfl rfl (fun _ => rfl) ?_
          refine mm_E.iv rfl rfl rfl rfl hx rfl (z_cx0 hE) ?_
          refine mm_E.s rfl rfl rfl (fun _ => rfl) ?_
          refine mm_E.s rfl rfl rfl (fun _ => rfl) ?_
          refine mm_E.s rfl rfl rfl (fun _ => rfl) ?_
          refine mm_E.s rfl rfl rfl (fun _ => rfl) ?_
          refine mm_E.s rfl rfl rfl (fun _ => rfl) ?_
          refine mm_E.s rfl rfl rfl (fun _ => if_neg h1) ?_
          refine mm_E.s rfl rfl rfl (fun _ => rfl) ?_
          refine mm_E.s rfl rfl rfl (fun _ => rfl) ?_
          refine mm_E.s rfl rfl rfl (fun _ => if_neg h2) ?_
          refine mm_E.s rfl rfl rfl (fun _ => rfl) ?_
          refine mm_E.ic rfl rfl rfl rfl rfl (z_bc _) ?_
          refine mm_E.s rfl rfl rfl (fun _ => rfl) ?_
          refine mm_E.s rfl rfl rfl (fun _ => if_neg h4) ?_
          refine mm_E.s rfl rfl rfl (fun _ => rfl) ?_
          exact mm_E.ret rfl rfl rfl
        · skip
          refine mm_E.s rfl rfl rfl (fun _ => rfl) ?_
          refine mm_E.s rfl rfl rfl (fun _ => rfl) ?_
          refine mm_E.iv rfl rfl rfl rfl hx rfl (z_cx1 hE) ?_
          refine mm_E.s rfl rfl rfl (fun _ => rfl) ?_
          refine mm_E.s rfl rfl rfl (fun _ => rfl) ?_
          refine mm_E.s rfl rfl rfl (fun _ => rfl) ?_
          refine mm_E.s rfl rfl rfl (fun _ => rfl) ?_
          refine mm_E.s rfl rfl rfl (fun _ => rfl) ?_
          refine mm_E.s rfl rfl rfl (fun _ => if_neg h1) ?_
          refine mm_E.s rfl rfl rfl (fun _ => rfl) ?_
          refine mm_E.s rfl rfl rfl (fun _ => rfl) ?_
          refine mm_E.s rfl rfl rfl (fun _ => if_neg h2) ?_
          refine mm_E.s rfl rfl rfl (fun _ => rfl) ?_
          refine mm_E.ic rfl rfl rfl rfl rfl (z_bc _) ?_
          refine mm_E.s rfl rfl rfl (fun _ => rfl) ?_
          refine mm_E.s rfl rfl rfl (fun _ => if_neg h4) ?_
          refine mm_E.s rfl rfl rfl (fun _ => rfl) ?_
          exact mm_E.ret rfl rfl rfl
  · skip
    refine mm_E.s rfl rfl rfl (fun _ => rfl) ?_
    refine mm_E.s rfl rfl rfl (fun _ => rfl) ?_
    refine mm_E.iv rfl rfl rfl rfl hx rfl (z_cxN hE hc) ?_
    refine mm_E.s rfl rfl rfl (fun _ => rfl) ?_
    refine mm_E.s rfl rfl rfl (fun _ => rfl) ?_
    refine mm_E.s rfl rfl rfl (fun _ => rfl) ?_
    refine mm_E.s rfl rfl rfl (fun _ => rfl) ?_
    exact mm_E.ret rfl rfl rfl

