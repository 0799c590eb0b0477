/-! CALLS ON BOTH SIDES: what only looks -/
theorem x_JI_i {pl0 ke0 sz0 se0 gr0 pl1 ke1 sz1 se1 gr1 im ce wo pv fa pm pw fr ba : Nat → Int32} {rw : Nat → Int64} {ro co mo : Int32} {mi : Int64} {ki : Int32} {has ke f : Nat → Int32} {ma wq dv : Nat → Int64} {cy sp e1 e2 e3 : Nat → Int32} {rn cn di tr : Int32} (hI0 : x_CI pl0 sz0 se0) (hI1 : x_CI pl1 sz1 se1) (hf : x_fo im) (him : ∀ v, v < 8 → im v = f v) (hJ0 : x_J1 pl0 ke0 has ke 0) (hJ1 : x_J1 pl1 ke1 has ke 1) : x_JI (kC pl0 ke0 sz0 se0 gr0 pl1 ke1 sz1 se1 gr1 im ce wo pv fa pm pw fr ba rw ro co mo mi ki (kE has ke f ma wq dv cy sp e1 e2 e3 rn cn di tr)) := ⟨_, _, _, _, _, _, _, _, _, _, _, _, _, _, _, _, _, _, _, _, _, _, _, _, _, _, _, _, _, _, _, _, _, _, _, _, _, _, _, _, hI0, hI1, hf, him, hJ0, hJ1, rfl⟩
theorem x_kin {k : Int32} (h : ¬ k < 0 ∧ ¬ 4 ≤ k) : ∃ a, a < 4 ∧ k = nI a := by
  obtain ⟨j, hj, rfl⟩ := nI_of2 (x := k) (M := 3) (n := 3) rfl h.1 (Int32.not_lt.mp (fun q => h.2 (x_34 q)))
  exact ⟨j, by omega, rfl⟩
theorem x_3l4 {k : Int32} : 3 < k ↔ 4 ≤ k := by
  rw [Int32.lt_iff_toInt_lt, Int32.le_iff_toInt_le, show (3 : Int32).toInt = 3 from rfl, show (4 : Int32).toInt = 4 from rfl]
  omega
theorem x_v_count {pl ke has kp sz se : Nat → Int32} {n : Nat} (h : x_J1 pl ke has kp n) (hI : x_CI pl sz se) {c : Int32} (hc : c = 0 ∨ c = 1) (hcn : c.toNatClampNeg = n) (k : Int32) : (if ¬ k < 0 ∧ ¬ 4 ≤ k then sz k.toNatClampNeg else -1) = (if (c = 0 ∨ c = 1) ∧ ¬ k < 0 ∧ ¬ 3 < k then nI (x_mn has c.toNatClampNeg k 255) else -1) := by
  by_cases q : ¬ k < 0 ∧ ¬ 4 ≤ k
  · rw [if_pos q, if_pos ⟨hc, q.1, fun z => q.2 (x_3l4.mp z)⟩, hcn]
    obtain ⟨a, ha, rfl⟩ := x_kin q
    rw [mm_cl (by omega), hI.sz ha, h.mn a 255 (Nat.le_refl _)]
  · rw [if_neg q, if_neg (fun z => q ⟨z.2.1, fun y => z.2.2 (x_3l4.mpr y)⟩)]
theorem x_v_euler {pl ke has kp sz se : Nat → Int32} {n : Nat} (h : x_J1 pl ke has kp n) (hI : x_CI pl sz se) {c : Int32} (hc : c = 0 ∨ c = 1) (hcn : c.toNatClampNeg = n) : sz 0 - sz 1 + sz 2 - sz 3 = (if c = 0 ∨ c = 1 then nI (x_mn has c.toNatClampNeg 0 255) - nI (x_mn has c.toNatClampNeg 1 255) + nI (x_mn has c.toNatClampNeg 2 255) - nI (x_mn has c.toNatClampNeg 3 255) else 0) := by
  rw [if_pos hc, hcn]
  have e : ∀ a : Nat, a < 4 → sz a = nI (x_mn has n (nI a) 255) := fun a ha => by rw [hI.sz ha, h.mn a 255 (Nat.le_refl _)]
  rw [e 0 (by decide), e 1 (by decide), e 2 (by decide), e 3 (by decide)]
  rfl
theorem x_v_get {pl ke has kp : Nat → Int32} {n : Nat} (hn : n < 2) (h : x_J1 pl ke has kp n) (s : Int32) [Decidable (x_is has (nI n) s)] : (if ¬ s ≤ 0 ∧ ¬ 256 ≤ s ∧ ¬ pl s.toNatClampNeg = -1 then ke s.toNatClampNeg else 0) = (if x_is has (nI n) s then kp (256 * (nI n).toNatClampNeg + s.toNatClampNeg) else 0) := by
  have e := x_hs (s := s) hn h.1
  by_cases q : x_is has (nI n) s
  · rw [if_pos q, if_pos (e.mp q), mm_cl (by omega), h.2.1 _ (x_cl_lt (e.mp q).2.1)]
  · rw [if_neg q, if_neg (fun z => q (e.mpr z))]
theorem x_sg0 (a : Int32) : x_sg a 0 = 0 := by
  unfold x_sg
  rw [if_neg (fun q => q.2.1 rfl)]
theorem x_sg00 {b : Nat} (h1 : 1 ≤ b) (hb : b < 256) : x_sg 0 (nI b) = 0 := by
  unfold x_sg
  refine if_neg (fun q => q.2.1 ?_)
  have z := q.1
  rw [show ((0 : Int32) ^^^ Int32.ofInt (-1)) = -1 from rfl, Int32.and_neg_one] at z
  exact z
/-- sum over faces: the reference goes through all sets, the counter through those of the dimension -/
theorem x_v_bd {pl ke has kp sz se : Nat → Int32} {n : Nat} (h : x_J1 pl ke has kp n) (hI : x_CI pl sz se) {s a : Nat} (hs1 : 1 ≤ s) (hs : s < 256) (ha : a < 4) (hd : x_dm (nI s) + 1 = nI a) : ∀ t, t ≤ 255 → x_bd has kp n (nI s) t = x_ba se ke a (nI s) (x_ct pl a t)
  | 0, _ => rfl
  | t + 1, ht => by
    have ih := x_v_bd h hI hs1 hs ha hd t (by omega)
    by_cases hp : pl (t + 1) = -1
    · rw [show x_ct pl a (t + 1) = x_ct pl a t from if_neg (fun q => q.1 hp), ← ih]
      exact if_pos ((h.1 (t + 1) (by omega)).mpr hp)
    · have e1 : x_bd has kp n (nI s) (t + 1) = x_bd has kp n (nI s) t + x_sg (nI (t + 1)) (nI s) * kp (256 * n + (t + 1)) := if_neg (fun q => hp ((h.1 (t + 1) (by omega)).mp q))
      rw [e1, ih]
      obtain ⟨k', h6, h7, h8, h9⟩ := hI.2.1 (t + 1) (by omega) (by omega) hp
      by_cases c : x_dm (nI (t + 1)) = nI a
      · have e : k' = a := (nI_eq (by omega) (by omega)).mp (h7.symm.trans c)
        rw [e, Nat.add_sub_cancel] at h9
        rw [show x_ct pl a (t + 1) = x_ct pl a t + 1 from if_pos ⟨hp, c⟩]
        show _ = x_ba se ke a (nI s) (x_ct pl a t) + x_sf (nI s) (se (a * 24 + x_ct pl a t)) * ke (se (a * 24 + x_ct pl a t)).toNatClampNeg
        rw [h9, mm_cl (by omega), h.2.1 (t + 1) (by omega), x_sgf (by omega) (x_sz_dm hI (by omega) (by omega) hp) hs1 hs]
      · rw [show x_ct pl a (t + 1) = x_ct pl a t from if_neg (fun q => c q.2)]
        have e : x_sg (nI (t + 1)) (nI s) = 0 := by
          unfold x_sg
          refine if_neg (fun q => c ?_)
          have z := q.2.2
          rw [(x_dm_sz hs _).mp rfl, hd] at z
          exact (x_dm_sz (by omega) _).mpr (by rw [← Int32.sub_add_cancel (x_sz8 (nI (t + 1)) 8) 1, ← z])
        rw [e, Int32.zero_mul, Int32.add_zero]
/-- of a set of four vertices nothing has it as a face -/
theorem x_v_bd4 {pl ke has kp sz se : Nat → Int32} {n : Nat} (h : x_J1 pl ke has kp n) (hI : x_CI pl sz se) {s : Nat} (hs1 : 1 ≤ s) (hs : s < 256) (hd : x_dm (nI s) + 1 = nI 4) : ∀ t, t ≤ 255 → x_bd has kp n (nI s) t = 0
  | 0, _ => rfl
  | t + 1, ht => by
    have ih := x_v_bd4 h hI hs1 hs hd t (by omega)
    by_cases hp : pl (t + 1) = -1
    · rw [← ih]
      exact if_pos ((h.1 (t + 1) (by omega)).mpr hp)
    · have e1 : x_bd has kp n (nI s) (t + 1) = x_bd has kp n (nI s) t + x_sg (nI (t + 1)) (nI s) * kp (256 * n + (t + 1)) := if_neg (fun q => hp ((h.1 (t + 1) (by omega)).mp q))
      rw [e1, ih]
      obtain ⟨k', h6, h7, h8, h9⟩ := hI.2.1 (t + 1) (by omega) (by omega) hp
      have e : x_sg (nI (t + 1)) (nI s) = 0 := by
        unfold x_sg
        refine if_neg (fun q => ?_)
        have z := q.2.2
        rw [(x_dm_sz hs _).mp rfl, hd] at z
        have z2 : x_dm (nI (t + 1)) = nI 4 := (x_dm_sz (by omega) _).mpr (by rw [← Int32.sub_add_cancel (x_sz8 (nI (t + 1)) 8) 1, ← z])
        have := (nI_eq (by omega) (by omega)).mp (h7.symm.trans z2)
        omega
      rw [e, Int32.zero_mul, Int32.add_zero]
