/-! THE REFERENCE: its cells, and runs that end well -/
section MMN
variable {G : List mm_M} {scr : mm_X} {k pc nx i a n : Nat} {M : mm_M} {L : mm_L} {st r : List Value} {h h1 : mm_H} {Q : Option Value → mm_H → Prop} {tg : List Nat}
theorem mm_T.iaN {f : Nat → Int32} {q : Nat} {v : Int32} (hM : mm_nth G k = some M) (hI : mm_nth M.1 pc = some (some (.iaload, nx, tg))) (hc : mm_nth h a = some (.inl (.int, n, .inl f))) (hq : q < n) (hn : n < 2 ^ 31) (hv : f q = v) (he : mm_T G scr k nx L (.int v :: r) h Q) : mm_T G scr k pc L (.int (nI q) :: .ref a :: r) h Q := mm_T.ia hM hI hc (mm_bd hq hn) (by rw [mm_cl (by omega)]; exact hv) he
theorem mm_T.laN {f : Nat → Int64} {q : Nat} {v : Int64} (hM : mm_nth G k = some M) (hI : mm_nth M.1 pc = some (some (.laload, nx, tg))) (hc : mm_nth h a = some (.inl (.long, n, .inr (.inl f)))) (hq : q < n) (hn : n < 2 ^ 31) (hv : f q = v) (he : mm_T G scr k nx L (.long v :: r) h Q) : mm_T G scr k pc L (.int (nI q) :: .ref a :: r) h Q := mm_T.la hM hI hc (mm_bd hq hn) (by rw [mm_cl (by omega)]; exact hv) he
theorem mm_T.zaN {f : Nat → Int32} {q : Nat} {v : Int32} (hM : mm_nth G k = some M) (hI : mm_nth M.1 pc = some (some (.baload, nx, tg))) (hc : mm_nth h a = some (.inl (.boolean, n, .inl f))) (hq : q < n) (hn : n < 2 ^ 31) (hv : f q = v) (he : mm_T G scr k nx L (.int v :: r) h Q) : mm_T G scr k pc L (.int (nI q) :: .ref a :: r) h Q := mm_T.za hM hI hc (mm_bd hq hn) (by rw [mm_cl (by omega)]; exact hv) he
theorem mm_T.isN {f : Nat → Int32} {q : Nat} {x : Int32} (hM : mm_nth G k = some M) (hI : mm_nth M.1 pc = some (some (.iastore, nx, tg))) (hc : mm_nth h a = some (.inl (.int, n, .inl f))) (hq : q < n) (hn : n < 2 ^ 31) (hh : mm_put h a (.inl (.int, n, .inl (upd f q x))) = some h1) (he : mm_T G scr k nx L r h1 Q) : mm_T G scr k pc L (.int x :: .int (nI q) :: .ref a :: r) h Q := mm_T.is hM hI hc (mm_bd hq hn) (by rw [mm_cl (by omega)]; exact hh) he
theorem mm_T.lsN {f : Nat → Int64} {q : Nat} {x : Int64} (hM : mm_nth G k = some M) (hI : mm_nth M.1 pc = some (some (.lastore, nx, tg))) (hc : mm_nth h a = some (.inl (.long, n, .inr (.inl f)))) (hq : q < n) (hn : n < 2 ^ 31) (hh : mm_put h a (.inl (.long, n, .inr (.inl (vp_updL f q x)))) = some h1) (he : mm_T G scr k nx L r h1 Q) : mm_T G scr k pc L (.long x :: .int (nI q) :: .ref a :: r) h Q := mm_T.ls hM hI hc (mm_bd hq hn) (by rw [mm_cl (by omega)]; exact hh) he
theorem mm_T.zsN {f : Nat → Int32} {q : Nat} {x : Int32} (hM : mm_nth G k = some M) (hI : mm_nth M.1 pc = some (some (.bastore, nx, tg))) (hc : mm_nth h a = some (.inl (.boolean, n, .inl f))) (hq : q < n) (hn : n < 2 ^ 31) (hh : mm_put h a (.inl (.boolean, n, .inl (upd f q (vp_nar .boolean x)))) = some h1) (he : mm_T G scr k nx L r h1 Q) : mm_T G scr k pc L (.int x :: .int (nI q) :: .ref a :: r) h Q := mm_T.zs hM hI hc (mm_bd hq hn) (by rw [mm_cl (by omega)]; exact hh) he
end MMN
theorem x_84 (a b : Nat) : (Int8.ofInt 48).toInt32 * nI a + nI b = nI (48 * a + b) := by
  rw [show ((Int8.ofInt 48).toInt32 : Int32) = nI 48 from rfl, pk_mul, nI_add]
abbrev kE (has ke f : Nat → Int32) (ma wo dv : Nat → Int64) (cy sp e1 e2 e3 : Nat → Int32) (ro co di tr : Int32) : mm_H := [x_mo ro co di tr, x_ha has, x_it 512 ke, x_it 8 f, x_lg 2304 ma, x_lg 2304 wo, x_lg 48 dv, x_it 24 cy, x_it 24 sp, x_it 24 e1, x_it 24 e2, x_it 24 e3]
abbrev kD (c : Nat → mm_C) (has ke f : Nat → Int32) (ma wo dv : Nat → Int64) (cy sp e1 e2 e3 : Nat → Int32) (ro co di tr : Int32) : mm_H := [c 0, c 1, c 2, c 3, c 4, c 5, c 6, c 7, c 8, c 9, c 10, c 11, c 12, c 13, c 14, c 15, c 16, c 17, c 18, c 19, c 20, c 21, c 22, c 23, c 24] ++ kE has ke f ma wo dv cy sp e1 e2 e3 ro co di tr
theorem x_ul (g : Nat → Int64) (p : Nat) (x : Int64) (q : Nat) : vp_updL g p x q = if q = p then x else g q := rfl
theorem x_ul2 (g : Nat → Int64) {a b a' b' : Nat} (hb : b < 48) (hb' : b' < 48) (x : Int64) : vp_updL g (48 * a + b) x (48 * a' + b') = if a' = a ∧ b' = b then x else g (48 * a' + b') := by
  rw [x_ul]
  by_cases h : a' = a ∧ b' = b
  · rw [if_pos h, if_pos (by rw [h.1, h.2])]
  · rw [if_neg h, if_neg (by omega)]
theorem x_ui (g : Nat → Int32) (p : Nat) (x : Int32) (q : Nat) : upd g p x q = if q = p then x else g q := rfl
theorem m_shape {c : Nat → mm_C} {has ke f cy sp e1 e2 e3 : Nat → Int32} {ma wo dv : Nat → Int64} {ro co di tr : Int32} (ro1 co1 : Int32) : mm_TC kM 78 [.ref 25, .int ro1, .int co1] (kD c has ke f ma wo dv cy sp e1 e2 e3 ro co di tr) (fun v h => v = none ∧ ∃ ma1, (∀ q, q < 2304 → ma1 q = 0) ∧ h = (kD c has ke f ma1 wo dv cy sp e1 e2 e3 ro1 co1 di tr)) := by
  refine mm_TC.of (M := kq_78) rfl rfl ?_
  refine mm_T.s rfl rfl rfl (fun _ => rfl) ?_
  refine mm_T.s rfl rfl rfl (fun _ => rfl) ?_
  refine mm_T.pfi rfl rfl rfl rfl rfl rfl ?_
  refine mm_T.s rfl rfl rfl (fun _ => rfl) ?_
  refine mm_T.s rfl rfl rfl (fun _ => rfl) ?_
  refine mm_T.pfi rfl rfl rfl rfl rfl rfl ?_
  refine mm_T.s rfl rfl rfl (fun _ => rfl) ?_
  refine mm_T.s rfl rfl rfl (fun _ => rfl) ?_
  refine mm_T.up (n := 2304) (P := fun i L h => ∃ x ma1, x = nI i ∧ (∀ q, q < i → ma1 q = 0) ∧ L = [some (.ref 25), some (.int ro1), some (.int co1), some (.int x)] ∧ h = (kD c has ke f ma1 wo dv cy sp e1 e2 e3 ro1 co1 di tr)) ?_ ?_ 0 (Nat.zero_le _) _ _ ⟨_, _, rfl, fun q hq => absurd hq (Nat.not_lt_zero _), rfl, rfl⟩
  · skip
    rintro i _ _ hi ⟨x, ma1, rfl, hz, rfl, rfl⟩ K
    refine mm_T.s rfl rfl rfl (fun _ => rfl) ?_
    refine mm_T.s rfl rfl rfl (fun _ => rfl) ?_
    refine mm_T.s rfl rfl rfl (fun _ => if_neg (nI_ge (b := 2304) hi (by decide))) ?_
    refine mm_T.s rfl rfl rfl (fun _ => rfl) ?_
    refine mm_T.gf rfl rfl rfl rfl rfl ?_
    refine mm_T.s rfl rfl rfl (fun _ => rfl) ?_
    refine mm_T.s rfl rfl rfl (fun _ => rfl) ?_
    refine mm_T.lsN rfl rfl rfl (by omega) (by decide) rfl ?_
    refine mm_T.s rfl rfl rfl (fun _ => rfl) ?_
    refine mm_T.s rfl rfl rfl (fun _ => rfl) ?_
    refine K _ _ ⟨_, _, nI_1 i, fun q hq => ?_, rfl, rfl⟩
    rw [x_ul]
    by_cases e : q = i
    · rw [if_pos e]
      rfl
    · rw [if_neg e]
      exact hz q (by omega)
  · skip
    rintro _ _ ⟨x, ma1, rfl, hz, rfl, rfl⟩
    refine mm_T.s rfl rfl rfl (fun _ => rfl) ?_
    refine mm_T.s rfl rfl rfl (fun _ => rfl) ?_
    refine mm_T.s rfl rfl rfl (fun _ => rfl) ?_
    exact mm_T.ret rfl rfl rfl (⟨rfl, _, hz, rfl⟩)
theorem x_mn_mono (has : Nat → Int32) (n : Nat) (k : Int32) {s : Nat} : ∀ {t : Nat}, s ≤ t → x_mn has n k s ≤ x_mn has n k t
  | 0, h => by
    have : s = 0 := by omega
    rw [this]
    exact Nat.le_refl _
  | t + 1, h => by
    by_cases e : s = t + 1
    · rw [e]
      exact Nat.le_refl _
    · refine Nat.le_trans (x_mn_mono has n k (s := s) (t := t) (by omega)) ?_
      by_cases q : x_cd has n k (t + 1)
      · rw [x_mn_y q]
        omega
      · rw [x_mn_n q]
        exact Nat.le_refl _
theorem x_mn_lt {has : Nat → Int32} {n : Nat} {k : Int32} {q t : Nat} (h1 : 1 ≤ q) (h : x_cd has n k q) (hq : q ≤ t) : x_mn has n k (q - 1) < x_mn has n k t := by
  obtain ⟨p, rfl⟩ : ∃ p, q = p + 1 := ⟨q - 1, by omega⟩
  refine Nat.lt_of_lt_of_le ?_ (x_mn_mono has n k hq)
  rw [x_mn_y h]
  simp
/-- the boundary as it is laid, up to face i -/
def x_PB (has : Nat → Int32) (n : Nat) (k : Int32) (row col : Nat) (ma ma1 : Nat → Int64) (i : Nat) : Prop := (∀ q q', 1 ≤ q → q ≤ i → x_cd has n (k - 1) q → 1 ≤ q' → q' ≤ 255 → x_cd has n k q' → ma1 (48 * (row + x_mn has n (k - 1) (q - 1)) + (col + x_mn has n k (q' - 1))) = (x_sg (nI q') (nI q)).toInt64) ∧ (∀ a b, a < 48 → b < 48 → ¬ (row ≤ a ∧ a < row + x_mn has n (k - 1) i ∧ col ≤ b ∧ b < col + x_mn has n k 255) → ma1 (48 * a + b) = ma (48 * a + b))
/-- one row of it, up to set j -/
def x_PR (has : Nat → Int32) (n : Nat) (k : Int32) (r q col : Nat) (ma1 ma2 : Nat → Int64) (j : Nat) : Prop := (∀ q', 1 ≤ q' → q' ≤ j → x_cd has n k q' → ma2 (48 * r + (col + x_mn has n k (q' - 1))) = (x_sg (nI q') (nI q)).toInt64) ∧ (∀ a b, a < 48 → b < 48 → ¬ (a = r ∧ col ≤ b ∧ b < col + x_mn has n k j) → ma2 (48 * a + b) = ma1 (48 * a + b))
theorem x_PB.skip {has : Nat → Int32} {n : Nat} {k : Int32} {row col : Nat} {ma ma1 : Nat → Int64} {i : Nat} (h : x_PB has n k row col ma ma1 i) (hn : ¬ x_cd has n (k - 1) (i + 1)) : x_PB has n k row col ma ma1 (i + 1) := by
  refine ⟨fun q q' h1 h2 h3 => ?_, fun a b ha hb hc => h.2 a b ha hb (by rw [x_mn_n hn] at hc; exact hc)⟩
  by_cases e : q = i + 1
  · rw [e] at h3
    exact absurd h3 hn
  · exact h.1 q q' h1 (by omega) h3
theorem x_PB.step {has : Nat → Int32} {n : Nat} {k : Int32} {row col : Nat} {ma ma1 ma2 : Nat → Int64} {i : Nat} (h : x_PB has n k row col ma ma1 i) (hy : x_cd has n (k - 1) (i + 1)) (hr : row + x_mn has n (k - 1) i < 48) (hc : col + x_mn has n k 255 ≤ 48) (h2 : x_PR has n k (row + x_mn has n (k - 1) i) (i + 1) col ma1 ma2 255) : x_PB has n k row col ma ma2 (i + 1) := by
  refine ⟨fun q q' h1 hq h3 h4 h5 h6 => ?_, fun a b ha hb hn => ?_⟩
  · by_cases e : q = i + 1
    · subst e
      exact h2.1 q' h4 h5 h6
    · have l1 : x_mn has n (k - 1) (q - 1) < x_mn has n (k - 1) i := x_mn_lt h1 h3 (by omega)
      have l2 : x_mn has n k (q' - 1) < x_mn has n k 255 := x_mn_lt h4 h6 h5
      rw [h2.2 _ _ (by omega) (by omega) (by omega)]
      exact h.1 q q' h1 (by omega) h3 h4 h5 h6
  · rw [x_mn_y hy] at hn
    rw [h2.2 a b ha hb (by omega)]
    exact h.2 a b ha hb (by omega)
theorem x_PR.skip {has : Nat → Int32} {n : Nat} {k : Int32} {r q col : Nat} {ma1 ma2 : Nat → Int64} {j : Nat} (h : x_PR has n k r q col ma1 ma2 j) (hn : ¬ x_cd has n k (j + 1)) : x_PR has n k r q col ma1 ma2 (j + 1) := by
  refine ⟨fun q' h1 h2 h3 => ?_, fun a b ha hb hc => h.2 a b ha hb (by rw [x_mn_n hn] at hc; exact hc)⟩
  by_cases e : q' = j + 1
  · rw [e] at h3
    exact absurd h3 hn
  · exact h.1 q' h1 (by omega) h3
theorem x_PR.step {has : Nat → Int32} {n : Nat} {k : Int32} {r q col : Nat} {ma1 ma2 : Nat → Int64} {j : Nat} (h : x_PR has n k r q col ma1 ma2 j) (hy : x_cd has n k (j + 1)) (hj : j < 255) (hc : col + x_mn has n k 255 ≤ 48) : x_PR has n k r q col ma1 (vp_updL ma2 (48 * r + (col + x_mn has n k j)) (x_sg (nI (j + 1)) (nI q)).toInt64) (j + 1) := by
  have l0 : x_mn has n k j < x_mn has n k 255 := x_mn_lt (q := j + 1) (by omega) hy (by omega)
  refine ⟨fun q' h1 h2 h3 => ?_, fun a b ha hb hn => ?_⟩
  · have l2 : x_mn has n k (q' - 1) < x_mn has n k 255 := x_mn_lt h1 h3 (by omega)
    rw [x_ul2 _ (by omega) (by omega)]
    by_cases e : q' = j + 1
    · subst e
      rw [if_pos ⟨rfl, by simp⟩]
    · have l1 : x_mn has n k (q' - 1) < x_mn has n k j := x_mn_lt h1 h3 (by omega)
      rw [if_neg (by omega)]
      exact h.1 q' h1 (by omega) h3
  · rw [x_mn_y hy] at hn
    rw [x_ul2 _ (by omega) hb, if_neg (by omega)]
    exact h.2 a b ha hb (by omega)
theorem x_k1 (k : Int32) : k - 1 + 1 = k := Int32.sub_add_cancel k 1
theorem m_pb {c : Nat → mm_C} {has ke f cy sp e1 e2 e3 : Nat → Int32} {ma wo dv : Nat → Int64} {ro co di tr : Int32} {n : Nat} (hn : n < 2) (k : Int32) {row col : Nat} (hr : row + x_mn has n (k - 1) 255 ≤ 48) (hc : col + x_mn has n k 255 ≤ 48) : mm_TC kM 79 [.ref 25, .int (nI n), .int k, .int (nI row), .int (nI col)] (kD c has ke f ma wo dv cy sp e1 e2 e3 ro co di tr) (fun v h => v = none ∧ ∃ ma1, x_PB has n k row col ma ma1 255 ∧ h = (kD c has ke f ma1 wo dv cy sp e1 e2 e3 ro co di tr)) := by
  refine mm_TC.of (M := kq_79) rfl rfl ?_
  refine mm_T.s rfl rfl rfl (fun _ => rfl) ?_
  refine mm_T.s rfl rfl rfl (fun _ => rfl) ?_
  refine mm_T.s rfl rfl rfl (fun _ => rfl) ?_
  refine mm_T.s rfl rfl rfl (fun _ => rfl) ?_
  refine mm_T.up (n := 255) (P := fun i L h => ∃ x5 x6 y7 y8 ma1, x5 = nI (row + x_mn has n (k - 1) i) ∧ x6 = nI (i + 1) ∧ x_PB has n k row col ma ma1 i ∧ L = [some (.ref 25), some (.int (nI n)), some (.int k), some (.int (nI row)), some (.int (nI col)), some (.int x5), some (.int x6), y7, y8] ∧ h = (kD c has ke f ma1 wo dv cy sp e1 e2 e3 ro co di tr)) ?_ ?_ 0 (Nat.zero_le _) _ _ ⟨_, _, _, _, _, rfl, rfl, ⟨fun q q2 h1 h2 => by omega, fun a b _ _ _ => rfl⟩, rfl, rfl⟩
  · skip
    rintro i0 _ _ hi0 ⟨x5, x6, y7, y8, ma1, rfl, rfl, hpb, rfl, rfl⟩ K
    refine mm_T.s rfl rfl rfl (fun _ => rfl) ?_
    refine mm_T.s rfl rfl rfl (fun _ => rfl) ?_
    refine mm_T.s rfl rfl rfl (fun _ => if_neg (nI_ge (a := i0 + 1) (b := 256) (by omega) (by decide))) ?_
    refine mm_T.s rfl rfl rfl (fun _ => rfl) ?_
    refine mm_T.gf rfl rfl rfl rfl rfl ?_
    refine mm_T.s rfl rfl rfl (fun _ => rfl) ?_
    refine mm_T.s rfl rfl rfl (fun _ => rfl) ?_
    refine mm_T.s rfl rfl rfl (fun _ => rfl) ?_
    refine mm_T.s rfl rfl rfl (fun _ => rfl) ?_
    refine mm_T.s rfl rfl rfl (fun _ => rfl) ?_
    refine mm_T.ti _ (x_ix _ _) ?_
    refine mm_T.zaN rfl rfl rfl (by omega) (by decide) rfl ?_
    refine mm_T.cz rfl rfl (fun hb27 => ?_) (fun hb27 => ?_)
    · skip
      have hno : ¬ x_cd has n (k - 1) (i0 + 1) := fun q => q.1 hb27
      have e5 : nI (row + x_mn has n (k - 1) i0) = nI (row + x_mn has n (k - 1) (i0 + 1)) := by rw [x_mn_n hno]
      have hP1 := hpb.skip hno
      refine mm_T.s rfl rfl rfl (fun _ => rfl) ?_
      refine mm_T.s rfl rfl rfl (fun _ => rfl) ?_
      exact K _ _ ⟨_, _, _, _, _, e5, nI_1 (i0 + 1), hP1, rfl, rfl⟩
    · skip
      refine mm_T.s rfl rfl rfl (fun _ => rfl) ?_
      refine mm_T.ic rfl rfl rfl rfl rfl (x_size _) ?_
      refine mm_T.s rfl rfl rfl (fun _ => rfl) ?_
      refine mm_T.ci rfl rfl (fun hb36 => ?_) (fun hb36 => ?_)
      · skip
        have hno : ¬ x_cd has n (k - 1) (i0 + 1) := fun q => hb36 (by rw [← x_k1 k]; exact q.2)
        have e5 : nI (row + x_mn has n (k - 1) i0) = nI (row + x_mn has n (k - 1) (i0 + 1)) := by rw [x_mn_n hno]
        have hP1 := hpb.skip hno
        refine mm_T.s rfl rfl rfl (fun _ => rfl) ?_
        refine mm_T.s rfl rfl rfl (fun _ => rfl) ?_
        exact K _ _ ⟨_, _, _, _, _, e5, nI_1 (i0 + 1), hP1, rfl, rfl⟩
      · skip
        have hcd0 : x_cd has n (k - 1) (i0 + 1) := ⟨hb27, by rw [x_k1]; exact Classical.not_not.mp hb36⟩
        have e5 : nI (row + x_mn has n (k - 1) i0) + 1 = nI (row + x_mn has n (k - 1) (i0 + 1)) := by rw [x_mn_y hcd0, nI_1]; rfl
        have l8 := x_mn_lt (q := i0 + 1) (t := 255) (by omega) hcd0 (by omega)
        rw [Nat.add_sub_cancel] at l8
        refine mm_T.s rfl rfl rfl (fun _ => rfl) ?_
        refine mm_T.s rfl rfl rfl (fun _ => rfl) ?_
        refine mm_T.s rfl rfl rfl (fun _ => rfl) ?_
        refine mm_T.s rfl rfl rfl (fun _ => rfl) ?_
        refine mm_T.up (n := 255) (P := fun i L h => ∃ x7 x8 ma2, x7 = nI (col + x_mn has n k i) ∧ x8 = nI (i + 1) ∧ x_PR has n k (row + x_mn has n (k - 1) i0) (i0 + 1) col ma1 ma2 i ∧ L = [some (.ref 25), some (.int (nI n)), some (.int k), some (.int (nI row)), some (.int (nI col)), some (.int (nI (row + x_mn has n (k - 1) i0))), some (.int (nI (i0 + 1))), some (.int x7), some (.int x8)] ∧ h = (kD c has ke f ma2 wo dv cy sp e1 e2 e3 ro co di tr)) ?_ ?_ 0 (Nat.zero_le _) _ _ ⟨_, _, _, rfl, rfl, ⟨fun q h1 h2 => by omega, fun a b _ _ _ => rfl⟩, rfl, rfl⟩
        · skip
          rintro i _ _ hi ⟨x7, x8, ma2, rfl, rfl, hpr, rfl, rfl⟩ K2
          refine mm_T.s rfl rfl rfl (fun _ => rfl) ?_
          refine mm_T.s rfl rfl rfl (fun _ => rfl) ?_
          refine mm_T.s rfl rfl rfl (fun _ => if_neg (nI_ge (a := i + 1) (b := 256) (by omega) (by decide))) ?_
          refine mm_T.s rfl rfl rfl (fun _ => rfl) ?_
          refine mm_T.gf rfl rfl rfl rfl rfl ?_
          refine mm_T.s rfl rfl rfl (fun _ => rfl) ?_
          refine mm_T.s rfl rfl rfl (fun _ => rfl) ?_
          refine mm_T.s rfl rfl rfl (fun _ => rfl) ?_
          refine mm_T.s rfl rfl rfl (fun _ => rfl) ?_
          refine mm_T.s rfl rfl rfl (fun _ => rfl) ?_
          refine mm_T.ti _ (x_ix _ _) ?_
          refine mm_T.zaN rfl rfl rfl (by omega) (by decide) rfl ?_
          refine mm_T.cz rfl rfl (fun hb67 => ?_) (fun hb67 => ?_)
          · skip
            have hno : ¬ x_cd has n k (i + 1) := fun q => q.1 hb67
            have e7 : nI (col + x_mn has n k i) = nI (col + x_mn has n k (i + 1)) := by rw [x_mn_n hno]
            have hP2 := hpr.skip hno
            refine mm_T.s rfl rfl rfl (fun _ => rfl) ?_
            refine mm_T.s rfl rfl rfl (fun _ => rfl) ?_
            exact K2 _ _ ⟨_, _, _, e7, nI_1 (i + 1), hP2, rfl, rfl⟩
          · skip
            refine mm_T.s rfl rfl rfl (fun _ => rfl) ?_
            refine mm_T.ic rfl rfl rfl rfl rfl (x_size _) ?_
            refine mm_T.s rfl rfl rfl (fun _ => rfl) ?_
            refine mm_T.s rfl rfl rfl (fun _ => rfl) ?_
            refine mm_T.s rfl rfl rfl (fun _ => rfl) ?_
            refine mm_T.ci rfl rfl (fun hb78 => ?_) (fun hb78 => ?_)
            · skip
              have hno : ¬ x_cd has n k (i + 1) := fun q => hb78 q.2
              have e7 : nI (col + x_mn has n k i) = nI (col + x_mn has n k (i + 1)) := by rw [x_mn_n hno]
              have hP2 := hpr.skip hno
              refine mm_T.s rfl rfl rfl (fun _ => rfl) ?_
              refine mm_T.s rfl rfl rfl (fun _ => rfl) ?_
              exact K2 _ _ ⟨_, _, _, e7, nI_1 (i + 1), hP2, rfl, rfl⟩
            · skip
              have hcd : x_cd has n k (i + 1) := ⟨hb67, Classical.not_not.mp hb78⟩
              have e7 : nI (col + x_mn has n k i) + 1 = nI (col + x_mn has n k (i + 1)) := by rw [x_mn_y hcd, nI_1]; rfl
              have hP2 := hpr.step hcd hi hc
              have l9 := x_mn_lt (q := i + 1) (t := 255) (by omega) hcd (by omega)
              rw [Nat.add_sub_cancel] at l9
              refine mm_T.s rfl rfl rfl (fun _ => rfl) ?_
              refine mm_T.gf rfl rfl rfl rfl rfl ?_
              refine mm_T.s rfl rfl rfl (fun _ => rfl) ?_
              refine mm_T.s rfl rfl rfl (fun _ => rfl) ?_
              refine mm_T.s rfl rfl rfl (fun _ => rfl) ?_
              refine mm_T.s rfl rfl rfl (fun _ => rfl) ?_
              refine mm_T.s rfl rfl rfl (fun _ => rfl) ?_
              refine mm_T.ti _ (x_84 _ _) ?_
              refine mm_T.s rfl rfl rfl (fun _ => rfl) ?_
              refine mm_T.s rfl rfl rfl (fun _ => rfl) ?_
              refine mm_T.ic rfl rfl rfl rfl rfl (g_sign _ _) ?_
              refine mm_T.s rfl rfl rfl (fun _ => rfl) ?_
              refine mm_T.lsN rfl rfl rfl (by omega) (by decide) rfl ?_
              refine mm_T.s rfl rfl rfl (fun _ => rfl) ?_
              refine mm_T.s rfl rfl rfl (fun _ => rfl) ?_
              refine mm_T.s rfl rfl rfl (fun _ => rfl) ?_
              exact K2 _ _ ⟨_, _, _, e7, nI_1 (i + 1), hP2, rfl, rfl⟩
        · skip
          rintro _ _ ⟨x7, x8, ma2, rfl, rfl, hpr, rfl, rfl⟩
          refine mm_T.s rfl rfl rfl (fun _ => rfl) ?_
          refine mm_T.s rfl rfl rfl (fun _ => rfl) ?_
          refine mm_T.s rfl rfl rfl (fun _ => rfl) ?_
          refine mm_T.s rfl rfl rfl (fun _ => rfl) ?_
          refine mm_T.s rfl rfl rfl (fun _ => rfl) ?_
          refine mm_T.s rfl rfl rfl (fun _ => rfl) ?_
          exact K _ _ ⟨_, _, _, _, _, e5, nI_1 (i0 + 1), hpb.step hcd0 (by omega) hc hpr, rfl, rfl⟩
  · skip
    rintro _ _ ⟨x5, x6, y7, y8, ma1, rfl, rfl, hpb, rfl, rfl⟩
    refine mm_T.s rfl rfl rfl (fun _ => rfl) ?_
    refine mm_T.s rfl rfl rfl (fun _ => rfl) ?_
    refine mm_T.s rfl rfl rfl (fun _ => rfl) ?_
    exact mm_T.ret rfl rfl rfl (⟨rfl, _, hpb, rfl⟩)
/-- the boundary of dimension k, all of it, as it stands in the matrix -/
abbrev x_BM (has : Nat → Int32) (n : Nat) (k : Int32) (ma1 : Nat → Int64) : Prop := ∃ ma0 : Nat → Int64, (∀ q, q < 2304 → ma0 q = 0) ∧ x_PB has n k 0 0 ma0 ma1 255
def x_MI (has : Nat → Int32) : Prop := ∀ n, n < 2 → ∀ k : Int32, x_mn has n k 255 ≤ 24
theorem m_bo {c : Nat → mm_C} {has ke f cy sp e1 e2 e3 : Nat → Int32} {ma wo dv : Nat → Int64} {ro co di tr : Int32} (hI : x_MI has) {n : Nat} (hn : n < 2) (k : Int32) : mm_TC kM 80 [.ref 25, .int (nI n), .int k] (kD c has ke f ma wo dv cy sp e1 e2 e3 ro co di tr) (fun v h => v = none ∧ ∃ ma1, x_BM has n k ma1 ∧ h = (kD c has ke f ma1 wo dv cy sp e1 e2 e3 (nI (x_mn has n (k - 1) 255)) (nI (x_mn has n k 255)) di tr)) := by
  have a1 := hI n hn k
  have a2 := hI n hn (k - 1)
  refine mm_TC.of (M := kq_80) rfl rfl ?_
  refine mm_T.s rfl rfl rfl (fun _ => rfl) ?_
  refine mm_T.s rfl rfl rfl (fun _ => rfl) ?_
  refine mm_T.s rfl rfl rfl (fun _ => rfl) ?_
  refine mm_T.s rfl rfl rfl (fun _ => rfl) ?_
  refine mm_T.s rfl rfl rfl (fun _ => rfl) ?_
  refine mm_T.s rfl rfl rfl (fun _ => rfl) ?_
  refine mm_T.iv rfl rfl rfl rfl rfl rfl (g_many rfl rfl hn (k - 1)) ?_
  refine mm_T.s rfl rfl rfl (fun _ => rfl) ?_
  refine mm_T.s rfl rfl rfl (fun _ => rfl) ?_
  refine mm_T.s rfl rfl rfl (fun _ => rfl) ?_
  refine mm_T.iv rfl rfl rfl rfl rfl rfl (g_many rfl rfl hn k) ?_
  refine mm_T.ivw rfl rfl rfl rfl rfl rfl (m_shape _ _) ?_
  rintro _ _ ⟨rfl, ma1, hz, rfl⟩
  refine mm_T.s rfl rfl rfl (fun _ => rfl) ?_
  refine mm_T.s rfl rfl rfl (fun _ => rfl) ?_
  refine mm_T.s rfl rfl rfl (fun _ => rfl) ?_
  refine mm_T.s rfl rfl rfl (fun _ => rfl) ?_
  refine mm_T.s rfl rfl rfl (fun _ => rfl) ?_
  refine mm_T.ivw rfl rfl rfl rfl rfl rfl (m_pb (row := 0) (col := 0) hn k (by omega) (by omega)) ?_
  rintro _ _ ⟨rfl, ma2, hpb, rfl⟩
  exact mm_T.ret rfl rfl rfl (⟨rfl, _, ⟨_, hz, hpb⟩, rfl⟩)
