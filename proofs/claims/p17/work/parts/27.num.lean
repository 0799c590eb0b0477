def x_us (x : Int32) (k : Int32) : Int32 := (x.toUInt32 >>> (k.toUInt32 &&& Int32.toUInt32 31)).toInt32
def x_b1 (x : Int32) : Int32 := x - (x_us x (Int32.ofInt 1) &&& 1431655765)
def x_b2 (x : Int32) : Int32 := (x &&& 858993459) + (x_us x (Int32.ofInt 2) &&& 858993459)
def x_b3 (x : Int32) : Int32 := (x + x_us x (Int32.ofInt 4)) &&& 252645135
def x_b4 (x : Int32) : Int32 := x + x_us x (Int8.ofInt 8).toInt32
def x_b5 (x : Int32) : Int32 := x + x_us x (Int8.ofInt 16).toInt32
def x_bc (x : Int32) : Int32 := x_b5 (x_b4 (x_b3 (x_b2 (x_b1 x)))) &&& (Int8.ofInt 63).toInt32
theorem z_bc {h : mm_H} (x : Int32) : mm_EC kM 0 [.int x] h (some (.int (x_bc x)), h) := by
  refine ⟨kq_0, rfl, rfl, ?_⟩
  refine mm_E.s rfl rfl rfl (fun _ => rfl) ?_
  refine mm_E.s rfl rfl rfl (fun _ => rfl) ?_
  refine mm_E.s rfl rfl rfl (fun _ => rfl) ?_
  refine mm_E.s rfl rfl rfl (fun _ => rfl) ?_
  refine mm_E.s rfl rfl rfl (fun _ => rfl) ?_
  refine mm_E.s rfl rfl rfl (fun _ => rfl) ?_
  refine mm_E.s rfl rfl rfl (fun _ => rfl) ?_
  refine mm_E.s rfl rfl rfl (fun _ => rfl) ?_
  refine mm_E.lc [some (.int (x_b1 x))] rfl ?_
  generalize ex1 : x_b1 x = x1
  refine mm_E.s rfl rfl rfl (fun _ => rfl) ?_
  refine mm_E.s rfl rfl rfl (fun _ => rfl) ?_
  refine mm_E.s rfl rfl rfl (fun _ => rfl) ?_
  refine mm_E.s rfl rfl rfl (fun _ => rfl) ?_
  refine mm_E.s rfl rfl rfl (fun _ => rfl) ?_
  refine mm_E.s rfl rfl rfl (fun _ => rfl) ?_
  refine mm_E.s rfl rfl rfl (fun _ => rfl) ?_
  refine mm_E.s rfl rfl rfl (fun _ => rfl) ?_
  refine mm_E.s rfl rfl rfl (fun _ => rfl) ?_
  refine mm_E.s rfl rfl rfl (fun _ => rfl) ?_
  refine mm_E.lc [some (.int (x_b2 x1))] rfl ?_
  generalize ex2 : x_b2 x1 = x2
  refine mm_E.s rfl rfl rfl (fun _ => rfl) ?_
  refine mm_E.s rfl rfl rfl (fun _ => rfl) ?_
  refine mm_E.s rfl rfl rfl (fun _ => rfl) ?_
  refine mm_E.s rfl rfl rfl (fun _ => rfl) ?_
  refine mm_E.s rfl rfl rfl (fun _ => rfl) ?_
  refine mm_E.s rfl rfl rfl (fun _ => rfl) ?_
  refine mm_E.s rfl rfl rfl (fun _ => rfl) ?_
  refine mm_E.s rfl rfl rfl (fun _ => rfl) ?_
  refine mm_E.lc [some (.int (x_b3 x2))] rfl ?_
  generalize ex3 : x_b3 x2 = x3
  refine mm_E.s rfl rfl rfl (fun _ => rfl) ?_
  refine mm_E.s rfl rfl rfl (fun _ => rfl) ?_
  refine mm_E.s rfl rfl rfl (fun _ => rfl) ?_
  refine mm_E.s rfl rfl rfl (fun _ => rfl) ?_
  refine mm_E.s rfl rfl rfl (fun _ => rfl) ?_
  refine mm_E.s rfl rfl rfl (fun _ => rfl) ?_
  refine mm_E.lc [some (.int (x_b4 x3))] rfl ?_
  generalize ex4 : x_b4 x3 = x4
  refine mm_E.s rfl rfl rfl (fun _ => rfl) ?_
  refine mm_E.s rfl rfl rfl (fun _ => rfl) ?_
  refine mm_E.s rfl rfl rfl (fun _ => rfl) ?_
  refine mm_E.s rfl rfl rfl (fun _ => rfl) ?_
  refine mm_E.s rfl rfl rfl (fun _ => rfl) ?_
  refine mm_E.s rfl rfl rfl (fun _ => rfl) ?_
  refine mm_E.lc [some (.int (x_b5 x4))] rfl ?_
  rw [show x_bc x = x_b5 x4 &&& (Int8.ofInt 63).toInt32 by rw [← ex4, ← ex3, ← ex2, ← ex1]; rfl]
  refine mm_E.s rfl rfl rfl (fun _ => rfl) ?_
  refine mm_E.s rfl rfl rfl (fun _ => rfl) ?_
  refine mm_E.s rfl rfl rfl (fun _ => rfl) ?_
  exact mm_E.ret rfl rfl rfl

def x_dm (x : Int32) : Int32 := x_bc x - 1
theorem z_dm {h : mm_H} (x : Int32) : mm_EC kM 54 [.int x] h (some (.int (x_dm x)), h) := by
  refine ⟨kq_54, rfl, rfl, ?_⟩
  refine mm_E.s rfl rfl rfl (fun _ => rfl) ?_
  refine mm_E.ic rfl rfl rfl rfl rfl (z_bc x) ?_
  refine mm_E.s rfl rfl rfl (fun _ => rfl) ?_
  refine mm_E.s rfl rfl rfl (fun _ => rfl) ?_
  exact mm_E.ret rfl rfl rfl

/-- place, sizes, sets behind t sets -/
def x_na (pl sz se : Nat → Int32) : Nat → (Nat → Int32) × (Nat → Int32) × (Nat → Int32)
  | 0 => (pl, sz, se)
  | t + 1 => if pl (t + 1) = -1 then x_na pl sz se t else
    (upd (x_na pl sz se t).1 (t + 1) ((x_na pl sz se t).2.1 (x_dm (nI (t + 1))).toNatClampNeg),
      upd (x_na pl sz se t).2.1 (x_dm (nI (t + 1))).toNatClampNeg ((x_na pl sz se t).2.1 (x_dm (nI (t + 1))).toNatClampNeg + 1),
      upd (x_na pl sz se t).2.2 (x_dm (nI (t + 1)) * 24 + (x_na pl sz se t).2.1 (x_dm (nI (t + 1))).toNatClampNeg).toNatClampNeg (nI (t + 1)))
theorem x_na_pl (pl sz se : Nat → Int32) : ∀ (t j : Nat), t < j → (x_na pl sz se t).1 j = pl j
  | 0, j, h => rfl
  | t + 1, j, h => by
    unfold x_na
    split
    · exact x_na_pl pl sz se t j (by omega)
    · show upd _ (t + 1) _ j = _
      unfold upd
      rw [if_neg (by omega)]
      exact x_na_pl pl sz se t j (by omega)
/-- the places that it writes are there -/
def x_nb (pl sz se : Nat → Int32) : Prop := ∀ t, t < 255 → ¬ pl (t + 1) = -1 → (0 ≤ (x_dm (nI (t + 1))).toInt ∧ (x_dm (nI (t + 1))).toInt < 4) ∧ 0 ≤ (x_dm (nI (t + 1)) * 24 + (x_na pl sz se t).2.1 (x_dm (nI (t + 1))).toNatClampNeg).toInt ∧ (x_dm (nI (t + 1)) * 24 + (x_na pl sz se t).2.1 (x_dm (nI (t + 1))).toNatClampNeg).toInt < 96
/-- the dimension that was noted last -/
def x_lo (pl : Nat → Int32) : Nat → Option Value
  | 0 => none
  | t + 1 => if pl (t + 1) = -1 then x_lo pl t else some (.int (x_dm (nI (t + 1))))
set_option maxHeartbeats 4000000 in
theorem z_num0 {pl0 ke0 sz0 se0 gr0 pl1 ke1 sz1 se1 gr1 im ce wo pv fa pm pw fr ba : Nat → Int32} {rw : Nat → Int64} {ro co mo : Int32} {mi : Int64} {ki : Int32} {M : mm_H} (hb : x_nb pl0 (x_fill sz0 0 4) se0) : mm_EC kM 11 [.ref 1] ([.inr (3, [.ref 1, .ref 7, .ref 13, .ref 14, .ref 21, .ref 23, .ref 24]), .inr (0, [.ref 2, .ref 3, .ref 4, .ref 5, .ref 6]), x_it 256 pl0, x_it 256 ke0, x_it 4 sz0, x_it 96 se0, x_it 4 gr0, .inr (0, [.ref 8, .ref 9, .ref 10, .ref 11, .ref 12]), x_it 256 pl1, x_it 256 ke1, x_it 4 sz1, x_it 96 se1, x_it 4 gr1, x_it 8 im, .inr (1, [.ref 15, .ref 16, .ref 17, .ref 18, .ref 19, .ref 20, .int ro, .int co, .int mo, .long mi, .int ki]), x_it 2304 ce, x_it 2304 wo, x_it 31 pv, x_it 48 fa, x_it 10 pm, x_it 10 pw, .inr (2, [.ref 22]), x_lg 24 rw, x_it 24 fr, x_it 24 ba] ++ M : mm_H) (none, ([.inr (3, [.ref 1, .ref 7, .ref 13, .ref 14, .ref 21, .ref 23, .ref 24]), .inr (0, [.ref 2, .ref 3, .ref 4, .ref 5, .ref 6]), x_it 256 (x_na pl0 (x_fill sz0 0 4) se0 255).1, x_it 256 ke0, x_it 4 (x_na pl0 (x_fill sz0 0 4) se0 255).2.1, x_it 96 (x_na pl0 (x_fill sz0 0 4) se0 255).2.2, x_it 4 gr0, .inr (0, [.ref 8, .ref 9, .ref 10, .ref 11, .ref 12]), x_it 256 pl1, x_it 256 ke1, x_it 4 sz1, x_it 96 se1, x_it 4 gr1, x_it 8 im, .inr (1, [.ref 15, .ref 16, .ref 17, .ref 18, .ref 19, .ref 20, .int ro, .int co, .int mo, .long mi, .int ki]), x_it 2304 ce, x_it 2304 wo, x_it 31 pv, x_it 48 fa, x_it 10 pm, x_it 10 pw, .inr (2, [.ref 22]), x_lg 24 rw, x_it 24 fr, x_it 24 ba] ++ M : mm_H)) := by
  refine ⟨kq_11, rfl, rfl, ?_⟩
  refine mm_E.s rfl rfl rfl (fun _ => rfl) ?_
  refine mm_E.gf rfl rfl rfl rfl rfl ?_
  refine mm_E.s rfl rfl rfl (fun _ => rfl) ?_
  refine mm_E.ic rfl rfl rfl rfl rfl (x_fill_EC rfl (by decide)) ?_
  refine mm_E.hc ([.inr (3, [.ref 1, .ref 7, .ref 13, .ref 14, .ref 21, .ref 23, .ref 24]), .inr (0, [.ref 2, .ref 3, .ref 4, .ref 5, .ref 6]), x_it 256 (x_na pl0 (x_fill sz0 0 4) se0 0).1, x_it 256 ke0, x_it 4 (x_na pl0 (x_fill sz0 0 4) se0 0).2.1, x_it 96 (x_na pl0 (x_fill sz0 0 4) se0 0).2.2, x_it 4 gr0, .inr (0, [.ref 8, .ref 9, .ref 10, .ref 11, .ref 12]), x_it 256 pl1, x_it 256 ke1, x_it 4 sz1, x_it 96 se1, x_it 4 gr1, x_it 8 im, .inr (1, [.ref 15, .ref 16, .ref 17, .ref 18, .ref 19, .ref 20, .int ro, .int co, .int mo, .long mi, .int ki]), x_it 2304 ce, x_it 2304 wo, x_it 31 pv, x_it 48 fa, x_it 10 pm, x_it 10 pw, .inr (2, [.ref 22]), x_lg 24 rw, x_it 24 fr, x_it 24 ba] ++ M : mm_H) rfl ?_
  refine mm_E.s rfl rfl rfl (fun _ => rfl) ?_
  refine mm_E.s rfl rfl rfl (fun _ => rfl) ?_
  have hloop := mm_E.loop (G := kM) (scr := none) (k := 11) (pc := 10) (res := (none, ([.inr (3, [.ref 1, .ref 7, .ref 13, .ref 14, .ref 21, .ref 23, .ref 24]), .inr (0, [.ref 2, .ref 3, .ref 4, .ref 5, .ref 6]), x_it 256 (x_na pl0 (x_fill sz0 0 4) se0 255).1, x_it 256 ke0, x_it 4 (x_na pl0 (x_fill sz0 0 4) se0 255).2.1, x_it 96 (x_na pl0 (x_fill sz0 0 4) se0 255).2.2, x_it 4 gr0, .inr (0, [.ref 8, .ref 9, .ref 10, .ref 11, .ref 12]), x_it 256 pl1, x_it 256 ke1, x_it 4 sz1, x_it 96 se1, x_it 4 gr1, x_it 8 im, .inr (1, [.ref 15, .ref 16, .ref 17, .ref 18, .ref 19, .ref 20, .int ro, .int co, .int mo, .long mi, .int ki]), x_it 2304 ce, x_it 2304 wo, x_it 31 pv, x_it 48 fa, x_it 10 pm, x_it 10 pw, .inr (2, [.ref 22]), x_lg 24 rw, x_it 24 fr, x_it 24 ba] ++ M : mm_H))) (fun t => [some (.ref 1), some (.int (nI (t + 1))), x_lo pl0 t]) (fun t => ([.inr (3, [.ref 1, .ref 7, .ref 13, .ref 14, .ref 21, .ref 23, .ref 24]), .inr (0, [.ref 2, .ref 3, .ref 4, .ref 5, .ref 6]), x_it 256 (x_na pl0 (x_fill sz0 0 4) se0 t).1, x_it 256 ke0, x_it 4 (x_na pl0 (x_fill sz0 0 4) se0 t).2.1, x_it 96 (x_na pl0 (x_fill sz0 0 4) se0 t).2.2, x_it 4 gr0, .inr (0, [.ref 8, .ref 9, .ref 10, .ref 11, .ref 12]), x_it 256 pl1, x_it 256 ke1, x_it 4 sz1, x_it 96 se1, x_it 4 gr1, x_it 8 im, .inr (1, [.ref 15, .ref 16, .ref 17, .ref 18, .ref 19, .ref 20, .int ro, .int co, .int mo, .long mi, .int ki]), x_it 2304 ce, x_it 2304 wo, x_it 31 pv, x_it 48 fa, x_it 10 pm, x_it 10 pw, .inr (2, [.ref 22]), x_lg 24 rw, x_it 24 fr, x_it 24 ba] ++ M : mm_H)) 255 ?_ ?_
  · exact hloop
  · skip
    refine mm_E.s rfl rfl rfl (fun _ => rfl) ?_
    refine mm_E.s rfl rfl rfl (fun _ => rfl) ?_
    refine mm_E.s rfl rfl rfl (fun _ => rfl) ?_
    exact mm_E.ret rfl rfl rfl
  · intro t ht ih
    have e1 : (x_na pl0 (x_fill sz0 0 4) se0 t).1 (t + 1) = pl0 (t + 1) := x_na_pl _ _ _ t (t + 1) (by omega)
    rw [← nI_1] at ih
    by_cases hp : pl0 (t + 1) = -1
    · rw [show x_na pl0 (x_fill sz0 0 4) se0 (t + 1) = x_na pl0 (x_fill sz0 0 4) se0 t from if_pos hp, show x_lo pl0 (t + 1) = x_lo pl0 t from if_pos hp] at ih
      refine mm_E.s rfl rfl rfl (fun _ => rfl) ?_
      refine mm_E.s rfl rfl rfl (fun _ => rfl) ?_
      refine mm_E.s rfl rfl rfl (fun _ => if_neg (nI_ge (a := t + 1) (b := 256) (by omega) (by decide))) ?_
      refine mm_E.s rfl rfl rfl (fun _ => rfl) ?_
      refine mm_E.gf rfl rfl rfl rfl rfl ?_
      refine mm_E.s rfl rfl rfl (fun _ => rfl) ?_
      refine mm_E.ia rfl rfl rfl (mm_bd (by omega) (by decide)) (v := pl0 (t + 1)) (by rw [mm_cl (by omega)]; exact e1) ?_
      refine mm_E.s rfl rfl rfl (fun _ => rfl) ?_
      refine mm_E.s rfl rfl rfl (fun _ => if_pos hp) ?_
      refine mm_E.s rfl rfl rfl (fun _ => rfl) ?_
      refine mm_E.s rfl rfl rfl (fun _ => rfl) ?_
      exact ih
    · rw [show x_na pl0 (x_fill sz0 0 4) se0 (t + 1) = _ from if_neg hp, show x_lo pl0 (t + 1) = some (.int (x_dm (nI (t + 1)))) from if_neg hp] at ih
      obtain ⟨hd, hi0, hi1⟩ := hb t ht hp
      generalize hdm : x_dm (nI (t + 1)) = d at hd hi0 hi1 ih
      refine mm_E.s rfl rfl rfl (fun _ => rfl) ?_
      refine mm_E.s rfl rfl rfl (fun _ => rfl) ?_
      refine mm_E.s rfl rfl rfl (fun _ => if_neg (nI_ge (a := t + 1) (b := 256) (by omega) (by decide))) ?_
      refine mm_E.s rfl rfl rfl (fun _ => rfl) ?_
      refine mm_E.gf rfl rfl rfl rfl rfl ?_
      refine mm_E.s rfl rfl rfl (fun _ => rfl) ?_
      refine mm_E.ia rfl rfl rfl (mm_bd (by omega) (by decide)) (v := pl0 (t + 1)) (by rw [mm_cl (by omega)]; exact e1) ?_
      refine mm_E.s rfl rfl rfl (fun _ => rfl) ?_
      refine mm_E.s rfl rfl rfl (fun _ => if_neg hp) ?_
      refine mm_E.s rfl rfl rfl (fun _ => rfl) ?_
      refine mm_E.ic rfl rfl rfl rfl rfl (z_dm _) ?_
      refine mm_E.ti d hdm ?_
      refine mm_E.s rfl rfl rfl (fun _ => rfl) ?_
      refine mm_E.s rfl rfl rfl (fun _ => rfl) ?_
      refine mm_E.gf rfl rfl rfl rfl rfl ?_
      refine mm_E.s rfl rfl rfl (fun _ => rfl) ?_
      refine mm_E.s rfl rfl rfl (fun _ => rfl) ?_
      refine mm_E.gf rfl rfl rfl rfl rfl ?_
      refine mm_E.s rfl rfl rfl (fun _ => rfl) ?_
      refine mm_E.ia rfl rfl rfl hd rfl ?_
      refine mm_E.is rfl rfl rfl (mm_bd (by omega) (by decide)) rfl ?_
      refine mm_E.s rfl rfl rfl (fun _ => rfl) ?_
      refine mm_E.gf rfl rfl rfl rfl rfl ?_
      refine mm_E.s rfl rfl rfl (fun _ => rfl) ?_
      refine mm_E.s rfl rfl rfl (fun _ => rfl) ?_
      refine mm_E.s rfl rfl rfl (fun _ => rfl) ?_
      refine mm_E.s rfl rfl rfl (fun _ => rfl) ?_
      refine mm_E.gf rfl rfl rfl rfl rfl ?_
      refine mm_E.s rfl rfl rfl (fun _ => rfl) ?_
      refine mm_E.ia rfl rfl rfl hd rfl ?_
      refine mm_E.s rfl rfl rfl (fun _ => rfl) ?_
      refine mm_E.s rfl rfl rfl (fun _ => rfl) ?_
      refine mm_E.is rfl rfl rfl ⟨hi0, hi1⟩ rfl ?_
      refine mm_E.s rfl rfl rfl (fun _ => rfl) ?_
      refine mm_E.gf rfl rfl rfl rfl rfl ?_
      refine mm_E.s rfl rfl rfl (fun _ => rfl) ?_
      refine mm_E.s rfl rfl rfl (fun _ => rfl) ?_
      refine mm_E.ia rfl rfl rfl hd rfl ?_
      refine mm_E.s rfl rfl rfl (fun _ => rfl) ?_
      refine mm_E.s rfl rfl rfl (fun _ => rfl) ?_
      refine mm_E.is rfl rfl rfl hd rfl ?_
      refine mm_E.s rfl rfl rfl (fun _ => rfl) ?_
      refine mm_E.s rfl rfl rfl (fun _ => rfl) ?_
      refine mm_E.hc _ ?_ ih
      rw [mm_cl (by omega)]
      rfl
set_option maxHeartbeats 4000000 in
theorem z_num1 {pl0 ke0 sz0 se0 gr0 pl1 ke1 sz1 se1 gr1 im ce wo pv fa pm pw fr ba : Nat → Int32} {rw : Nat → Int64} {ro co mo : Int32} {mi : Int64} {ki : Int32} {M : mm_H} (hb : x_nb pl1 (x_fill sz1 0 4) se1) : mm_EC kM 11 [.ref 7] ([.inr (3, [.ref 1, .ref 7, .ref 13, .ref 14, .ref 21, .ref 23, .ref 24]), .inr (0, [.ref 2, .ref 3, .ref 4, .ref 5, .ref 6]), x_it 256 pl0, x_it 256 ke0, x_it 4 sz0, x_it 96 se0, x_it 4 gr0, .inr (0, [.ref 8, .ref 9, .ref 10, .ref 11, .ref 12]), x_it 256 pl1, x_it 256 ke1, x_it 4 sz1, x_it 96 se1, x_it 4 gr1, x_it 8 im, .inr (1, [.ref 15, .ref 16, .ref 17, .ref 18, .ref 19, .ref 20, .int ro, .int co, .int mo, .long mi, .int ki]), x_it 2304 ce, x_it 2304 wo, x_it 31 pv, x_it 48 fa, x_it 10 pm, x_it 10 pw, .inr (2, [.ref 22]), x_lg 24 rw, x_it 24 fr, x_it 24 ba] ++ M : mm_H) (none, ([.inr (3, [.ref 1, .ref 7, .ref 13, .ref 14, .ref 21, .ref 23, .ref 24]), .inr (0, [.ref 2, .ref 3, .ref 4, .ref 5, .ref 6]), x_it 256 pl0, x_it 256 ke0, x_it 4 sz0, x_it 96 se0, x_it 4 gr0, .inr (0, [.ref 8, .ref 9, .ref 10, .ref 11, .ref 12]), x_it 256 (x_na pl1 (x_fill sz1 0 4) se1 255).1, x_it 256 ke1, x_it 4 (x_na pl1 (x_fill sz1 0 4) se1 255).2.1, x_it 96 (x_na pl1 (x_fill sz1 0 4) se1 255).2.2, x_it 4 gr1, x_it 8 im, .inr (1, [.ref 15, .ref 16, .ref 17, .ref 18, .ref 19, .ref 20, .int ro, .int co, .int mo, .long mi, .int ki]), x_it 2304 ce, x_it 2304 wo, x_it 31 pv, x_it 48 fa, x_it 10 pm, x_it 10 pw, .inr (2, [.ref 22]), x_lg 24 rw, x_it 24 fr, x_it 24 ba] ++ M : mm_H)) := by
  refine ⟨kq_11, rfl, rfl, ?_⟩
  refine mm_E.s rfl rfl rfl (fun _ => rfl) ?_
  refine mm_E.gf rfl rfl rfl rfl rfl ?_
  refine mm_E.s rfl rfl rfl (fun _ => rfl) ?_
  refine mm_E.ic rfl rfl rfl rfl rfl (x_fill_EC rfl (by decide)) ?_
  refine mm_E.hc ([.inr (3, [.ref 1, .ref 7, .ref 13, .ref 14, .ref 21, .ref 23, .ref 24]), .inr (0, [.ref 2, .ref 3, .ref 4, .ref 5, .ref 6]), x_it 256 pl0, x_it 256 ke0, x_it 4 sz0, x_it 96 se0, x_it 4 gr0, .inr (0, [.ref 8, .ref 9, .ref 10, .ref 11, .ref 12]), x_it 256 (x_na pl1 (x_fill sz1 0 4) se1 0).1, x_it 256 ke1, x_it 4 (x_na pl1 (x_fill sz1 0 4) se1 0).2.1, x_it 96 (x_na pl1 (x_fill sz1 0 4) se1 0).2.2, x_it 4 gr1, x_it 8 im, .inr (1, [.ref 15, .ref 16, .ref 17, .ref 18, .ref 19, .ref 20, .int ro, .int co, .int mo, .long mi, .int ki]), x_it 2304 ce, x_it 2304 wo, x_it 31 pv, x_it 48 fa, x_it 10 pm, x_it 10 pw, .inr (2, [.ref 22]), x_lg 24 rw, x_it 24 fr, x_it 24 ba] ++ M : mm_H) rfl ?_
  refine mm_E.s rfl rfl rfl (fun _ => rfl) ?_
  refine mm_E.s rfl rfl rfl (fun _ => rfl) ?_
  have hloop := mm_E.loop (G := kM) (scr := none) (k := 11) (pc := 10) (res := (none, ([.inr (3, [.ref 1, .ref 7, .ref 13, .ref 14, .ref 21, .ref 23, .ref 24]), .inr (0, [.ref 2, .ref 3, .ref 4, .ref 5, .ref 6]), x_it 256 pl0, x_it 256 ke0, x_it 4 sz0, x_it 96 se0, x_it 4 gr0, .inr (0, [.ref 8, .ref 9, .ref 10, .ref 11, .ref 12]), x_it 256 (x_na pl1 (x_fill sz1 0 4) se1 255).1, x_it 256 ke1, x_it 4 (x_na pl1 (x_fill sz1 0 4) se1 255).2.1, x_it 96 (x_na pl1 (x_fill sz1 0 4) se1 255).2.2, x_it 4 gr1, x_it 8 im, .inr (1, [.ref 15, .ref 16, .ref 17, .ref 18, .ref 19, .ref 20, .int ro, .int co, .int mo, .long mi, .int ki]), x_it 2304 ce, x_it 2304 wo, x_it 31 pv, x_it 48 fa, x_it 10 pm, x_it 10 pw, .inr (2, [.ref 22]), x_lg 24 rw, x_it 24 fr, x_it 24 ba] ++ M : mm_H))) (fun t => [some (.ref 7), some (.int (nI (t + 1))), x_lo pl1 t]) (fun t => ([.inr (3, [.ref 1, .ref 7, .ref 13, .ref 14, .ref 21, .ref 23, .ref 24]), .inr (0, [.ref 2, .ref 3, .ref 4, .ref 5, .ref 6]), x_it 256 pl0, x_it 256 ke0, x_it 4 sz0, x_it 96 se0, x_it 4 gr0, .inr (0, [.ref 8, .ref 9, .ref 10, .ref 11, .ref 12]), x_it 256 (x_na pl1 (x_fill sz1 0 4) se1 t).1, x_it 256 ke1, x_it 4 (x_na pl1 (x_fill sz1 0 4) se1 t).2.1, x_it 96 (x_na pl1 (x_fill sz1 0 4) se1 t).2.2, x_it 4 gr1, x_it 8 im, .inr (1, [.ref 15, .ref 16, .ref 17, .ref 18, .ref 19, .ref 20, .int ro, .int co, .int mo, .long mi, .int ki]), x_it 2304 ce, x_it 2304 wo, x_it 31 pv, x_it 48 fa, x_it 10 pm, x_it 10 pw, .inr (2, [.ref 22]), x_lg 24 rw, x_it 24 fr, x_it 24 ba] ++ M : mm_H)) 255 ?_ ?_
  · exact hloop
  · skip
    refine mm_E.s rfl rfl rfl (fun _ => rfl) ?_
    refine mm_E.s rfl rfl rfl (fun _ => rfl) ?_
    refine mm_E.s rfl rfl rfl (fun _ => rfl) ?_
    exact mm_E.ret rfl rfl rfl
  · intro t ht ih
    have e1 : (x_na pl1 (x_fill sz1 0 4) se1 t).1 (t + 1) = pl1 (t + 1) := x_na_pl _ _ _ t (t + 1) (by omega)
    rw [← nI_1] at ih
    by_cases hp : pl1 (t + 1) = -1
    · rw [show x_na pl1 (x_fill sz1 0 4) se1 (t + 1) = x_na pl1 (x_fill sz1 0 4) se1 t from if_pos hp, show x_lo pl1 (t + 1) = x_lo pl1 t from if_pos hp] at ih
      refine mm_E.s rfl rfl rfl (fun _ => rfl) ?_
      refine mm_E.s rfl rfl rfl (fun _ => rfl) ?_
      refine mm_E.s rfl rfl rfl (fun _ => if_neg (nI_ge (a := t + 1) (b := 256) (by omega) (by decide))) ?_
      refine mm_E.s rfl rfl rfl (fun _ => rfl) ?_
      refine mm_E.gf rfl rfl rfl rfl rfl ?_
      refine mm_E.s rfl rfl rfl (fun _ => rfl) ?_
      refine mm_E.ia rfl rfl rfl (mm_bd (by omega) (by decide)) (v := pl1 (t + 1)) (by rw [mm_cl (by omega)]; exact e1) ?_
      refine mm_E.s rfl rfl rfl (fun _ => rfl) ?_
      refine mm_E.s rfl rfl rfl (fun _ => if_pos hp) ?_
      refine mm_E.s rfl rfl rfl (fun _ => rfl) ?_
      refine mm_E.s rfl rfl rfl (fun _ => rfl) ?_
      exact ih
    · rw [show x_na pl1 (x_fill sz1 0 4) se1 (t + 1) = _ from if_neg hp, show x_lo pl1 (t + 1) = some (.int (x_dm (nI (t + 1)))) from if_neg hp] at ih
      obtain ⟨hd, hi0, hi1⟩ := hb t ht hp
      generalize hdm : x_dm (nI (t + 1)) = d at hd hi0 hi1 ih
      refine mm_E.s rfl rfl rfl (fun _ => rfl) ?_
      refine mm_E.s rfl rfl rfl (fun _ => rfl) ?_
      refine mm_E.s rfl rfl rfl (fun _ => if_neg (nI_ge (a := t + 1) (b := 256) (by omega) (by decide))) ?_
      refine mm_E.s rfl rfl rfl (fun _ => rfl) ?_
      refine mm_E.gf rfl rfl rfl rfl rfl ?_
      refine mm_E.s rfl rfl rfl (fun _ => rfl) ?_
      refine mm_E.ia rfl rfl rfl (mm_bd (by omega) (by decide)) (v := pl1 (t + 1)) (by rw [mm_cl (by omega)]; exact e1) ?_
      refine mm_E.s rfl rfl rfl (fun _ => rfl) ?_
      refine mm_E.s rfl rfl rfl (fun _ => if_neg hp) ?_
      refine mm_E.s rfl rfl rfl (fun _ => rfl) ?_
      refine mm_E.ic rfl rfl rfl rfl rfl (z_dm _) ?_
      refine mm_E.ti d hdm ?_
      refine mm_E.s rfl rfl rfl (fun _ => rfl) ?_
      refine mm_E.s rfl rfl rfl (fun _ => rfl) ?_
      refine mm_E.gf rfl rfl rfl rfl rfl ?_
      refine mm_E.s rfl rfl rfl (fun _ => rfl) ?_
      refine mm_E.s rfl rfl rfl (fun _ => rfl) ?_
      refine mm_E.gf rfl rfl rfl rfl rfl ?_
      refine mm_E.s rfl rfl rfl (fun _ => rfl) ?_
      refine mm_E.ia rfl rfl rfl hd rfl ?_
      refine mm_E.is rfl rfl rfl (mm_bd (by omega) (by decide)) rfl ?_
      refine mm_E.s rfl rfl rfl (fun _ => rfl) ?_
      refine mm_E.gf rfl rfl rfl rfl rfl ?_
      refine mm_E.s rfl rfl rfl (fun _ => rfl) ?_
      refine mm_E.s rfl rfl rfl (fun _ => rfl) ?_
      refine mm_E.s rfl rfl rfl (fun _ => rfl) ?_
      refine mm_E.s rfl rfl rfl (fun _ => rfl) ?_
      refine mm_E.gf rfl rfl rfl rfl rfl ?_
      refine mm_E.s rfl rfl rfl (fun _ => rfl) ?_
      refine mm_E.ia rfl rfl rfl hd rfl ?_
      refine mm_E.s rfl rfl rfl (fun _ => rfl) ?_
      refine mm_E.s rfl rfl rfl (fun _ => rfl) ?_
      refine mm_E.is rfl rfl rfl ⟨hi0, hi1⟩ rfl ?_
      refine mm_E.s rfl rfl rfl (fun _ => rfl) ?_
      refine mm_E.gf rfl rfl rfl rfl rfl ?_
      refine mm_E.s rfl rfl rfl (fun _ => rfl) ?_
      refine mm_E.s rfl rfl rfl (fun _ => rfl) ?_
      refine mm_E.ia rfl rfl rfl hd rfl ?_
      refine mm_E.s rfl rfl rfl (fun _ => rfl) ?_
      refine mm_E.s rfl rfl rfl (fun _ => rfl) ?_
      refine mm_E.is rfl rfl rfl hd rfl ?_
      refine mm_E.s rfl rfl rfl (fun _ => rfl) ?_
      refine mm_E.s rfl rfl rfl (fun _ => rfl) ?_
      refine mm_E.hc _ ?_ ih
      rw [mm_cl (by omega)]
      rfl
