/-! SPANS: the reference's methods over edges and triangles, exact -/
theorem x_s21 {x : Int32} (h : x = 2) : x - 1 = nI 1 := by
  rw [h]
  decide
theorem m_noteE {c : Nat → mm_C} {has ke f cy sp e1 e2 e3 : Nat → Int32} {ma wo dv : Nat → Int64} {ro co di tr : Int32} {pl kq sz se : Nat → Int32} {n : Nat} (hn : n < 2) (hMI : x_MI has) (hJ : x_J1 pl kq has ke n) (hI : x_CI pl sz se) : mm_TC kM 111 [.ref 25, .int (nI n)] (kD c has ke f ma wo dv cy sp e1 e2 e3 ro co di tr) (fun v h => v = none ∧ ∃ a1 a2 a3, f2_E (x_mn has n 2 255) a1 a2 a3 (x_tA pl se) (x_tB pl se) (x_tC pl se) ∧ h = (kD c has ke f ma wo dv cy sp a1 a2 a3 ro co di (nI (x_mn has n 2 255)))) := by
  have m2 := hMI n hn 2
  have hT : ∀ t, t < x_mn has n 2 255 → (x_tA pl se) t < 24 ∧ (x_tB pl se) t < 24 ∧ (x_tC pl se) t < 24 := fun t ht => x_tE hI (by
    rw [← hJ.mn 2 255 (Nat.le_refl _)]
    exact ht)
  refine mm_TC.of (M := kq_111) rfl rfl ?_
  refine mm_T.s rfl rfl rfl (fun _ => rfl) ?_
  refine mm_T.s rfl rfl rfl (fun _ => rfl) ?_
  refine mm_T.pfi rfl rfl rfl rfl rfl rfl ?_
  refine mm_T.s rfl rfl rfl (fun _ => rfl) ?_
  refine mm_T.s rfl rfl rfl (fun _ => rfl) ?_
  refine mm_T.up (n := 255) (P := fun i L h => ∃ (x2 : Int32) (y3 y4 : Option Value) (a1 a2 a3 : Nat → Int32) (t1 : Int32), x2 = nI (i + 1) ∧ t1 = nI (x_mn has n 2 i) ∧ (∀ t, t < x_mn has n 2 i → a1 t = nI ((x_tA pl se) t) ∧ a2 t = nI ((x_tB pl se) t) ∧ a3 t = nI ((x_tC pl se) t)) ∧ L = [some (.ref 25), some (.int (nI n)), some (.int x2), y3, y4] ∧ h = (kD c has ke f ma wo dv cy sp a1 a2 a3 ro co di t1)) ?_ ?_ 0 (Nat.zero_le _) _ _ ⟨_, _, _, _, _, _, _, rfl, rfl, fun t ht => absurd ht (Nat.not_lt_zero t), rfl, rfl⟩
  · skip
    rintro i _ _ hi ⟨x2, y3, y4, a1, a2, a3, t1, rfl, rfl, hA, rfl, rfl⟩ K
    refine mm_T.s rfl rfl rfl (fun _ => rfl) ?_
    refine mm_T.s rfl rfl rfl (fun _ => rfl) ?_
    refine mm_T.s rfl rfl rfl (fun _ => if_neg (nI_ge (a := i + 1) (b := 256) (by omega) (by decide))) ?_
    refine mm_T.s rfl rfl rfl (fun _ => rfl) ?_
    refine mm_T.gf rfl rfl rfl rfl rfl ?_
    refine mm_T.s rfl rfl rfl (fun _ => rfl) ?_
    refine mm_T.s rfl rfl rfl (fun _ => rfl) ?_
    refine mm_T.s rfl rfl rfl (fun _ => rfl) ?_
    refine mm_T.s rfl rfl rfl (fun _ => rfl) ?_
    refine mm_T.s rfl rfl rfl (fun _ => rfl) ?_
    refine mm_T.ti _ (x_ix _ _) ?_
    refine mm_T.zaN rfl rfl rfl (by omega) (by decide) rfl ?_
    refine mm_T.cz rfl rfl (fun hb26 => ?_) (fun hb26 => ?_)
    · skip
      have e10 : x_mn has n 2 (i + 1) = x_mn has n 2 i := x_mn_n (fun q => q.1 hb26)
      have e9 : nI (x_mn has n 2 i) = nI (x_mn has n 2 (i + 1)) := by rw [e10]
      have hA2 : (∀ t, t < x_mn has n 2 (i + 1) → a1 t = nI ((x_tA pl se) t) ∧ a2 t = nI ((x_tB pl se) t) ∧ a3 t = nI ((x_tC pl se) t)) := by
        rw [e10]
        exact hA
      refine mm_T.s rfl rfl rfl (fun _ => rfl) ?_
      refine mm_T.s rfl rfl rfl (fun _ => rfl) ?_
      exact K _ _ ⟨_, _, _, _, _, _, _, nI_1 (i + 1), e9, hA2, rfl, rfl⟩
    · skip
      refine mm_T.s rfl rfl rfl (fun _ => rfl) ?_
      refine mm_T.ic rfl rfl rfl rfl rfl (x_size _) ?_
      refine mm_T.s rfl rfl rfl (fun _ => rfl) ?_
      refine mm_T.ci rfl rfl (fun hb34 => ?_) (fun hb34 => ?_)
      · skip
        have e10 : x_mn has n 2 (i + 1) = x_mn has n 2 i := x_mn_n (fun q => hb34 q.2)
        have e9 : nI (x_mn has n 2 i) = nI (x_mn has n 2 (i + 1)) := by rw [e10]
        have hA2 : (∀ t, t < x_mn has n 2 (i + 1) → a1 t = nI ((x_tA pl se) t) ∧ a2 t = nI ((x_tB pl se) t) ∧ a3 t = nI ((x_tC pl se) t)) := by
          rw [e10]
          exact hA
        refine mm_T.s rfl rfl rfl (fun _ => rfl) ?_
        refine mm_T.s rfl rfl rfl (fun _ => rfl) ?_
        exact K _ _ ⟨_, _, _, _, _, _, _, nI_1 (i + 1), e9, hA2, rfl, rfl⟩
      · skip
        have hcd : x_cd has n 2 (i + 1) := ⟨hb26, Classical.not_not.mp hb34⟩
        have e10 : x_mn has n 2 (i + 1) = x_mn has n 2 i + 1 := x_mn_y hcd
        have e9 : nI (x_mn has n 2 i) + 1 = nI (x_mn has n 2 (i + 1)) := by rw [e10, nI_1]
        have l9 := x_mn_lt (q := i + 1) (t := 255) (by omega) hcd (by omega)
        rw [Nat.add_sub_cancel] at l9
        have h3 : x_sz8 (nI (i + 1)) 8 = 3 := Classical.not_not.mp hb34
        obtain ⟨j0, j1, hlh⟩ := x_lh_ok (s := i + 1) (by omega) h3
        obtain ⟨hq1, hq2, hq3⟩ := t_q (by omega) h3 hlh
        obtain ⟨hl1, hl2, hl3, hl4, hl5, hl6, hl7, hl8, hl9⟩ := hlh
        obtain ⟨-, -, -, ⟨a1z, a2z, a3z, a4⟩, ⟨b1z, b2z, b3z, b4⟩, ⟨c1z, c2z, c3z, c4⟩, -, -, -⟩ := t_p (q := i + 1) (by omega) h3
        have p0 : 0 < 2 ^ j0 := Nat.two_pow_pos _
        have p1 : 0 < 2 ^ j1 := Nat.two_pow_pos _
        have hpl : ¬ pl (i + 1) = -1 := fun z => hb26 ((hJ.1 (i + 1) (by omega)).mpr z)
        have hSt : x_tS se (x_mn has n 2 i) = i + 1 := by
          rw [show x_mn has n 2 i = x_ct pl 2 i from hJ.mn 2 i (by omega)]
          exact x_tS_of hI (q := i + 1) (by omega) (by omega) h3 hpl
        have E1 : nI (x_mn has n (x_sz8 (nI (i + 1 - 2 ^ j1)) 8 - 1) (i + 1 - 2 ^ j1 - 1)) = nI ((x_tA pl se) (x_mn has n 2 i)) := by
          unfold x_tA
          rw [hq1, hSt, x_s21 a4, hJ.mn 1 _ (by omega)]
        have E2 : nI (x_mn has n (x_sz8 (nI (i + 1 - 2 ^ j0)) 8 - 1) (i + 1 - 2 ^ j0 - 1)) = nI ((x_tB pl se) (x_mn has n 2 i)) := by
          unfold x_tB
          rw [hq2, hSt, x_s21 b4, hJ.mn 1 _ (by omega)]
        have E3 : nI (x_mn has n (x_sz8 (nI (2 ^ j0 + 2 ^ j1)) 8 - 1) (2 ^ j0 + 2 ^ j1 - 1)) = nI ((x_tC pl se) (x_mn has n 2 i)) := by
          unfold x_tC
          rw [hq3, hSt, x_s21 c4, hJ.mn 1 _ (by omega)]
        have hA2 : (∀ t, t < x_mn has n 2 (i + 1) → (upd a1 (x_mn has n 2 i) (nI ((x_tA pl se) (x_mn has n 2 i)))) t = nI ((x_tA pl se) t) ∧ (upd a2 (x_mn has n 2 i) (nI ((x_tB pl se) (x_mn has n 2 i)))) t = nI ((x_tB pl se) t) ∧ (upd a3 (x_mn has n 2 i) (nI ((x_tC pl se) (x_mn has n 2 i)))) t = nI ((x_tC pl se) t)) := fun t ht => by
          rw [e10] at ht
          rw [x_ui, x_ui, x_ui]
          by_cases q : t = x_mn has n 2 i
          · rw [if_pos q, if_pos q, if_pos q, q]
            exact ⟨rfl, rfl, rfl⟩
          · rw [if_neg q, if_neg q, if_neg q]
            exact hA t (by omega)
        refine mm_T.s rfl rfl rfl (fun _ => rfl) ?_
        refine mm_T.s rfl rfl rfl (fun _ => rfl) ?_
        refine mm_T.up (n := j0) (P := fun j L h => ∃ x3, x3 = nI (2 ^ j) ∧ L = [some (.ref 25), some (.int (nI n)), some (.int (nI (i + 1))), some (.int x3), y4] ∧ h = (kD c has ke f ma wo dv cy sp a1 a2 a3 ro co di (nI (x_mn has n 2 i)))) ?_ ?_ 0 (Nat.zero_le _) _ _ ⟨_, rfl, rfl, rfl⟩
        · skip
          rintro j _ _ hj ⟨x3, rfl, rfl, rfl⟩ K2
          refine mm_T.s rfl rfl rfl (fun _ => rfl) ?_
          refine mm_T.s rfl rfl rfl (fun _ => rfl) ?_
          refine mm_T.s rfl rfl rfl (fun _ => rfl) ?_
          refine mm_T.s rfl rfl rfl (fun _ => if_pos (hl5 j hj)) ?_
          refine mm_T.s rfl rfl rfl (fun _ => rfl) ?_
          refine mm_T.s rfl rfl rfl (fun _ => rfl) ?_
          refine mm_T.s rfl rfl rfl (fun _ => rfl) ?_
          refine mm_T.ti _ (x_db j) ?_
          refine mm_T.s rfl rfl rfl (fun _ => rfl) ?_
          refine mm_T.s rfl rfl rfl (fun _ => rfl) ?_
          exact K2 _ _ ⟨_, rfl, rfl, rfl⟩
        · skip
          rintro _ _ ⟨x3, rfl, rfl, rfl⟩
          refine mm_T.s rfl rfl rfl (fun _ => rfl) ?_
          refine mm_T.s rfl rfl rfl (fun _ => rfl) ?_
          refine mm_T.s rfl rfl rfl (fun _ => rfl) ?_
          refine mm_T.s rfl rfl rfl (fun _ => if_neg hl3) ?_
          refine mm_T.s rfl rfl rfl (fun _ => rfl) ?_
          refine mm_T.s rfl rfl rfl (fun _ => rfl) ?_
          refine mm_T.up (n := 7 - j1) (P := fun j L h => ∃ x4, x4 = nI (2 ^ (7 - j)) ∧ L = [some (.ref 25), some (.int (nI n)), some (.int (nI (i + 1))), some (.int (nI (2 ^ j0))), some (.int x4)] ∧ h = (kD c has ke f ma wo dv cy sp a1 a2 a3 ro co di (nI (x_mn has n 2 i)))) ?_ ?_ 0 (Nat.zero_le _) _ _ ⟨_, rfl, rfl, rfl⟩
          · skip
            rintro j _ _ hj ⟨x4, rfl, rfl, rfl⟩ K3
            have e7 : nI (2 ^ (7 - j)) / 2 = nI (2 ^ (7 - (j + 1))) := by
              have e : 7 - j = 7 - (j + 1) + 1 := by omega
              rw [e]
              exact x_hf _ (by omega)
            refine mm_T.s rfl rfl rfl (fun _ => rfl) ?_
            refine mm_T.s rfl rfl rfl (fun _ => rfl) ?_
            refine mm_T.s rfl rfl rfl (fun _ => rfl) ?_
            refine mm_T.s rfl rfl rfl (fun _ => if_pos (hl6 (7 - j) (by omega) (by omega))) ?_
            refine mm_T.s rfl rfl rfl (fun _ => rfl) ?_
            refine mm_T.s rfl rfl rfl (fun _ => rfl) ?_
            refine mm_T.s rfl rfl rfl (fun _ => rfl) ?_
            refine mm_T.s rfl rfl rfl (fun _ => rfl) ?_
            refine mm_T.s rfl rfl rfl (fun _ => rfl) ?_
            exact K3 _ _ ⟨_, e7, rfl, rfl⟩
          · skip
            rw [show 7 - (7 - j1) = j1 by omega]
            rintro _ _ ⟨x4, rfl, rfl, rfl⟩
            refine mm_T.s rfl rfl rfl (fun _ => rfl) ?_
            refine mm_T.s rfl rfl rfl (fun _ => rfl) ?_
            refine mm_T.s rfl rfl rfl (fun _ => rfl) ?_
            refine mm_T.s rfl rfl rfl (fun _ => if_neg hl4) ?_
            refine mm_T.s rfl rfl rfl (fun _ => rfl) ?_
            refine mm_T.gf rfl rfl rfl rfl rfl ?_
            refine mm_T.s rfl rfl rfl (fun _ => rfl) ?_
            refine mm_T.gf rfl rfl rfl rfl rfl ?_
            refine mm_T.s rfl rfl rfl (fun _ => rfl) ?_
            refine mm_T.s rfl rfl rfl (fun _ => rfl) ?_
            refine mm_T.s rfl rfl rfl (fun _ => rfl) ?_
            refine mm_T.s rfl rfl rfl (fun _ => rfl) ?_
            refine mm_T.s rfl rfl rfl (fun _ => rfl) ?_
            refine mm_T.ti _ (x_nsub (by omega)) ?_
            refine mm_T.iv rfl rfl rfl rfl rfl rfl (g_num rfl rfl hn (by omega) (by omega)) ?_
            refine mm_T.ti _ E1 ?_
            refine mm_T.isN rfl rfl rfl (by omega) (by decide) rfl ?_
            refine mm_T.s rfl rfl rfl (fun _ => rfl) ?_
            refine mm_T.gf rfl rfl rfl rfl rfl ?_
            refine mm_T.s rfl rfl rfl (fun _ => rfl) ?_
            refine mm_T.gf rfl rfl rfl rfl rfl ?_
            refine mm_T.s rfl rfl rfl (fun _ => rfl) ?_
            refine mm_T.s rfl rfl rfl (fun _ => rfl) ?_
            refine mm_T.s rfl rfl rfl (fun _ => rfl) ?_
            refine mm_T.s rfl rfl rfl (fun _ => rfl) ?_
            refine mm_T.s rfl rfl rfl (fun _ => rfl) ?_
            refine mm_T.ti _ (x_nsub (by omega)) ?_
            refine mm_T.iv rfl rfl rfl rfl rfl rfl (g_num rfl rfl hn (by omega) (by omega)) ?_
            refine mm_T.ti _ E2 ?_
            refine mm_T.isN rfl rfl rfl (by omega) (by decide) rfl ?_
            refine mm_T.s rfl rfl rfl (fun _ => rfl) ?_
            refine mm_T.gf rfl rfl rfl rfl rfl ?_
            refine mm_T.s rfl rfl rfl (fun _ => rfl) ?_
            refine mm_T.gf rfl rfl rfl rfl rfl ?_
            refine mm_T.s rfl rfl rfl (fun _ => rfl) ?_
            refine mm_T.s rfl rfl rfl (fun _ => rfl) ?_
            refine mm_T.s rfl rfl rfl (fun _ => rfl) ?_
            refine mm_T.s rfl rfl rfl (fun _ => rfl) ?_
            refine mm_T.s rfl rfl rfl (fun _ => rfl) ?_
            refine mm_T.ti _ (nI_add _ _) ?_
            refine mm_T.iv rfl rfl rfl rfl rfl rfl (g_num rfl rfl hn (by omega) (by omega)) ?_
            refine mm_T.ti _ E3 ?_
            refine mm_T.isN rfl rfl rfl (by omega) (by decide) rfl ?_
            refine mm_T.s rfl rfl rfl (fun _ => rfl) ?_
            refine mm_T.s rfl rfl rfl (fun _ => rfl) ?_
            refine mm_T.gf rfl rfl rfl rfl rfl ?_
            refine mm_T.s rfl rfl rfl (fun _ => rfl) ?_
            refine mm_T.s rfl rfl rfl (fun _ => rfl) ?_
            refine mm_T.pfi rfl rfl rfl rfl rfl rfl ?_
            refine mm_T.s rfl rfl rfl (fun _ => rfl) ?_
            refine mm_T.s rfl rfl rfl (fun _ => rfl) ?_
            exact K _ _ ⟨_, _, _, _, _, _, _, nI_1 (i + 1), e9, hA2, rfl, rfl⟩
  · skip
    rintro _ _ ⟨x2, y3, y4, a1, a2, a3, t1, rfl, rfl, hA, rfl, rfl⟩
    refine mm_T.s rfl rfl rfl (fun _ => rfl) ?_
    refine mm_T.s rfl rfl rfl (fun _ => rfl) ?_
    refine mm_T.s rfl rfl rfl (fun _ => rfl) ?_
    exact mm_T.ret rfl rfl rfl (⟨rfl, a1, a2, a3, fun t ht => ⟨⟨(hA t ht).1, (hT t ht).1⟩, ⟨(hA t ht).2.1, (hT t ht).2.1⟩, (hA t ht).2.2, (hT t ht).2.2⟩, rfl⟩)
theorem m_cocE {c : Nat → mm_C} {has ke f cy sp e1 e2 e3 : Nat → Int32} {ma wo dv : Nat → Int64} {ro co di : Int32} {tn : Nat} (ht : tn ≤ 24) {A B C : Nat → Nat} (hE : f2_E tn e1 e2 e3 A B C) {n : Nat} (hn : n ≤ 24) : mm_TC kM 113 [.ref 25, .int (nI n)] (kD c has ke f ma wo dv cy sp e1 e2 e3 ro co di (nI tn)) (fun v h => ∃ (l : Nat) (cy1 : Nat → Int32) (w : Nat → Nat), l ≤ n ∧ (∀ j, j < l → cy1 j = nI (w j)) ∧ f2_K (f2_d A B C tn) n tn l w ∧ v = some (.int (nI l)) ∧ h = (kD c has ke f ma wo dv cy1 sp e1 e2 e3 ro co di (nI tn))) := by
  refine mm_TC.of (M := kq_113) rfl rfl ?_
  refine mm_T.s rfl rfl rfl (fun _ => rfl) ?_
  refine mm_T.s rfl rfl rfl (fun _ => rfl) ?_
  refine mm_T.up (n := n) (P := fun i L h => ∃ x2 cy1, x2 = nI i ∧ (∀ j, j < i → cy1 j = nI (2 ^ j)) ∧ L = [some (.ref 25), some (.int (nI n)), some (.int x2), none, none, none, none] ∧ h = (kD c has ke f ma wo dv cy1 sp e1 e2 e3 ro co di (nI tn))) ?_ ?_ 0 (Nat.zero_le _) _ _ ⟨_, _, rfl, fun j hj => absurd hj (Nat.not_lt_zero j), rfl, rfl⟩
  · skip
    rintro i _ _ hi ⟨x2, cy1, rfl, hcy, rfl, rfl⟩ K
    have hcy2 : ∀ j, j < i + 1 → upd cy1 i (nI (1 * 2 ^ i)) j = nI (2 ^ j) := fun j hj => by
      rw [x_ui]
      by_cases q : j = i
      · rw [if_pos q, q, Nat.one_mul]
      · rw [if_neg q]
        exact hcy j (by omega)
    refine mm_T.s rfl rfl rfl (fun _ => rfl) ?_
    refine mm_T.s rfl rfl rfl (fun _ => rfl) ?_
    refine mm_T.s rfl rfl rfl (fun _ => if_neg (nI_ge hi (by omega))) ?_
    refine mm_T.s rfl rfl rfl (fun _ => rfl) ?_
    refine mm_T.gf rfl rfl rfl rfl rfl ?_
    refine mm_T.s rfl rfl rfl (fun _ => rfl) ?_
    refine mm_T.s rfl rfl rfl (fun _ => rfl) ?_
    refine mm_T.s rfl rfl rfl (fun _ => rfl) ?_
    refine mm_T.s rfl rfl rfl (fun _ => rfl) ?_
    refine mm_T.ti _ (f2_1s (by omega)) ?_
    refine mm_T.isN rfl rfl rfl (by omega) (by decide) rfl ?_
    refine mm_T.s rfl rfl rfl (fun _ => rfl) ?_
    refine mm_T.s rfl rfl rfl (fun _ => rfl) ?_
    exact K _ _ ⟨_, _, nI_1 i, hcy2, rfl, rfl⟩
  · skip
    rintro _ _ ⟨x2, cy1, rfl, hcy, rfl, rfl⟩
    refine mm_T.s rfl rfl rfl (fun _ => rfl) ?_
    refine mm_T.s rfl rfl rfl (fun _ => rfl) ?_
    refine mm_T.s rfl rfl rfl (fun _ => if_pos (nI_le (Nat.le_refl _) (by omega))) ?_
    refine mm_T.s rfl rfl rfl (fun _ => rfl) ?_
    refine mm_T.s rfl rfl rfl (fun _ => rfl) ?_
    refine mm_T.s rfl rfl rfl (fun _ => rfl) ?_
    refine mm_T.s rfl rfl rfl (fun _ => rfl) ?_
    refine mm_T.up (n := tn) (P := fun i L h => ∃ (l : Nat) (x2 x3 : Int32) (y4 y5 y6 : Option Value) (cy1 : Nat → Int32) (w : Nat → Nat), l ≤ n ∧ x2 = nI l ∧ x3 = nI i ∧ (∀ j, j < l → cy1 j = nI (w j)) ∧ f2_K (f2_d A B C tn) n i l w ∧ L = [some (.ref 25), some (.int (nI n)), some (.int x2), some (.int x3), y4, y5, y6] ∧ h = (kD c has ke f ma wo dv cy1 sp e1 e2 e3 ro co di (nI tn))) ?_ ?_ 0 (Nat.zero_le _) _ _ ⟨n, _, _, _, _, _, _, _, Nat.le_refl _, rfl, rfl, hcy, f2_K_0 _ n, rfl, rfl⟩
    · skip
      rintro i0 _ _ hi0 ⟨l, x2, x3, y4, y5, y6, cy1, w, hl, rfl, rfl, hcy, hk, rfl, rfl⟩ K
      refine mm_T.s rfl rfl rfl (fun _ => rfl) ?_
      refine mm_T.s rfl rfl rfl (fun _ => rfl) ?_
      refine mm_T.gf rfl rfl rfl rfl rfl ?_
      refine mm_T.s rfl rfl rfl (fun _ => if_neg (nI_ge hi0 (by omega))) ?_
      refine mm_T.s rfl rfl rfl (fun _ => rfl) ?_
      refine mm_T.s rfl rfl rfl (fun _ => rfl) ?_
      refine mm_T.s rfl rfl rfl (fun _ => rfl) ?_
      refine mm_T.s rfl rfl rfl (fun _ => rfl) ?_
      refine mm_T.up (n := l) (P := fun i L h => ∃ (x4 x5 : Int32) (y6 : Option Value) (cy2 : Nat → Int32) (w : Nat → Nat), x5 = nI i ∧ (∀ j, j < l → cy2 j = nI (w j)) ∧ ((x4 = -1 ∧ f2_Ka (f2_d A B C tn) n i0 l i w) ∨ ∃ j, x4 = nI j ∧ f2_Kb (f2_d A B C tn) n i0 l i w j) ∧ L = [some (.ref 25), some (.int (nI n)), some (.int (nI l)), some (.int (nI i0)), some (.int x4), some (.int x5), y6] ∧ h = (kD c has ke f ma wo dv cy2 sp e1 e2 e3 ro co di (nI tn))) ?_ ?_ 0 (Nat.zero_le _) _ _ ⟨_, _, _, _, w, rfl, hcy, Or.inl ⟨rfl, f2_Ka_0 hk⟩, rfl, rfl⟩
      · skip
        rintro i _ _ hi ⟨x4, x5, y6, cy2, w, rfl, hcy, hfi, rfl, rfl⟩ K2
        have hci := hcy i hi
        have hdw : (f2_d A B C tn) (w i) < 2 ^ 24 := f2_24 (f2_d_lt _ _ _ _ _) ht
        rcases hfi with ⟨rfl, hka⟩ | ⟨j, rfl, hkb⟩
        · have hw : w i < 2 ^ 24 := f2_24 (hka.1.1 i hi).1 hn
          refine mm_T.s rfl rfl rfl (fun _ => rfl) ?_
          refine mm_T.s rfl rfl rfl (fun _ => rfl) ?_
          refine mm_T.s rfl rfl rfl (fun _ => if_neg (nI_ge hi (by omega))) ?_
          refine mm_T.s rfl rfl rfl (fun _ => rfl) ?_
          refine mm_T.s rfl rfl rfl (fun _ => rfl) ?_
          refine mm_T.gf rfl rfl rfl rfl rfl ?_
          refine mm_T.s rfl rfl rfl (fun _ => rfl) ?_
          refine mm_T.iaN rfl rfl rfl (by omega) (by decide) rfl ?_
          refine mm_T.ti _ hci ?_
          refine mm_T.ivw rfl rfl rfl rfl rfl rfl (m_cobE ht hE hw) ?_
          rintro _ _ ⟨rfl, rfl⟩
          refine mm_T.s rfl rfl rfl (fun _ => rfl) ?_
          refine mm_T.s rfl rfl rfl (fun _ => rfl) ?_
          refine mm_T.s rfl rfl rfl (fun _ => rfl) ?_
          refine mm_T.s rfl rfl rfl (fun _ => rfl) ?_
          refine mm_T.ti _ (f2_it1 (by omega) (by omega)) ?_
          refine mm_T.s rfl rfl rfl (fun _ => rfl) ?_
          refine mm_T.ci rfl rfl (fun hb62 => ?_) (fun hb62 => ?_)
          · skip
            have hz : ((f2_d A B C tn) (w i)).testBit i0 = false := Bool.eq_false_iff.mpr (fun q => hb62 (by rw [q]; rfl))
            refine mm_T.s rfl rfl rfl (fun _ => rfl) ?_
            refine mm_T.s rfl rfl rfl (fun _ => rfl) ?_
            refine mm_T.s rfl rfl rfl (fun _ => rfl) ?_
            refine mm_T.s rfl rfl rfl (fun _ => rfl) ?_
            refine mm_T.s rfl rfl rfl (fun _ => rfl) ?_
            refine mm_T.s rfl rfl rfl (fun _ => rfl) ?_
            refine mm_T.s rfl rfl rfl (fun _ => rfl) ?_
            refine mm_T.s rfl rfl rfl (fun _ => rfl) ?_
            refine mm_T.s rfl rfl rfl (fun _ => rfl) ?_
            refine mm_T.s rfl rfl rfl (fun _ => rfl) ?_
            exact K2 _ _ ⟨_, _, _, _, w, nI_1 i, hcy, Or.inl ⟨rfl, f2_Ka_a hka hz⟩, rfl, rfl⟩
          · skip
            have hz : ((f2_d A B C tn) (w i)).testBit i0 = true := eq_true_of_ne_false (fun q => hb62 (show ¬ _ = _ from by rw [q]; decide))
            refine mm_T.s rfl rfl rfl (fun _ => rfl) ?_
            refine mm_T.s rfl rfl rfl (fun _ => rfl) ?_
            refine mm_T.s rfl rfl rfl (fun _ => rfl) ?_
            refine mm_T.s rfl rfl rfl (fun _ => rfl) ?_
            refine mm_T.s rfl rfl rfl (fun _ => rfl) ?_
            refine mm_T.s rfl rfl rfl (fun _ => rfl) ?_
            refine mm_T.s rfl rfl rfl (fun _ => rfl) ?_
            refine mm_T.s rfl rfl rfl (fun _ => rfl) ?_
            refine mm_T.s rfl rfl rfl (fun _ => rfl) ?_
            refine mm_T.s rfl rfl rfl (fun _ => rfl) ?_
            refine mm_T.s rfl rfl rfl (fun _ => rfl) ?_
            refine mm_T.s rfl rfl rfl (fun _ => rfl) ?_
            refine mm_T.s rfl rfl rfl (fun _ => rfl) ?_
            refine mm_T.s rfl rfl rfl (fun _ => rfl) ?_
            refine mm_T.s rfl rfl rfl (fun _ => rfl) ?_
            refine mm_T.s rfl rfl rfl (fun _ => rfl) ?_
            exact K2 _ _ ⟨_, _, _, _, w, nI_1 i, hcy, Or.inr ⟨i, rfl, f2_Ka_b hka hz⟩, rfl, rfl⟩
        · have hw : w i < 2 ^ 24 := f2_24 (hkb.1.1 i hi).1 hn
          have hji := hkb.2.1
          have hwj : w j < 2 ^ 24 := f2_24 (hkb.1.1 j (by omega)).1 hn
          refine mm_T.s rfl rfl rfl (fun _ => rfl) ?_
          refine mm_T.s rfl rfl rfl (fun _ => rfl) ?_
          refine mm_T.s rfl rfl rfl (fun _ => if_neg (nI_ge hi (by omega))) ?_
          refine mm_T.s rfl rfl rfl (fun _ => rfl) ?_
          refine mm_T.s rfl rfl rfl (fun _ => rfl) ?_
          refine mm_T.gf rfl rfl rfl rfl rfl ?_
          refine mm_T.s rfl rfl rfl (fun _ => rfl) ?_
          refine mm_T.iaN rfl rfl rfl (by omega) (by decide) rfl ?_
          refine mm_T.ti _ hci ?_
          refine mm_T.ivw rfl rfl rfl rfl rfl rfl (m_cobE ht hE hw) ?_
          rintro _ _ ⟨rfl, rfl⟩
          refine mm_T.s rfl rfl rfl (fun _ => rfl) ?_
          refine mm_T.s rfl rfl rfl (fun _ => rfl) ?_
          refine mm_T.s rfl rfl rfl (fun _ => rfl) ?_
          refine mm_T.s rfl rfl rfl (fun _ => rfl) ?_
          refine mm_T.ti _ (f2_it1 (by omega) (by omega)) ?_
          refine mm_T.s rfl rfl rfl (fun _ => rfl) ?_
          refine mm_T.ci rfl rfl (fun hb62 => ?_) (fun hb62 => ?_)
          · skip
            have hz : ((f2_d A B C tn) (w i)).testBit i0 = false := Bool.eq_false_iff.mpr (fun q => hb62 (by rw [q]; rfl))
            refine mm_T.s rfl rfl rfl (fun _ => rfl) ?_
            refine mm_T.s rfl rfl rfl (fun _ => rfl) ?_
            refine mm_T.s rfl rfl rfl (fun _ => rfl) ?_
            refine mm_T.s rfl rfl rfl (fun _ => rfl) ?_
            refine mm_T.s rfl rfl rfl (fun _ => rfl) ?_
            refine mm_T.s rfl rfl rfl (fun _ => rfl) ?_
            refine mm_T.s rfl rfl rfl (fun _ => rfl) ?_
            refine mm_T.s rfl rfl rfl (fun _ => rfl) ?_
            refine mm_T.s rfl rfl rfl (fun _ => rfl) ?_
            refine mm_T.s rfl rfl rfl (fun _ => rfl) ?_
            exact K2 _ _ ⟨_, _, _, _, w, nI_1 i, hcy, Or.inr ⟨j, rfl, f2_Kb_b hkb hz⟩, rfl, rfl⟩
          · skip
            have hz : ((f2_d A B C tn) (w i)).testBit i0 = true := eq_true_of_ne_false (fun q => hb62 (show ¬ _ = _ from by rw [q]; decide))
            have hx : cy2 i ^^^ cy2 j = nI (w i ^^^ w j) := by
              rw [hci, hcy j (by omega)]
              exact f2_ix (by omega) (by omega)
            have hcy2 : ∀ k, k < l → upd cy2 i (nI (w i ^^^ w j)) k = nI ((fun k => if k = i then w i ^^^ w j else w k) k) := fun k hk => by
              show upd cy2 i (nI (w i ^^^ w j)) k = nI (if k = i then w i ^^^ w j else w k)
              rw [x_ui]
              by_cases q : k = i
              · rw [if_pos q, if_pos q]
              · rw [if_neg q, if_neg q]
                exact hcy k hk
            refine mm_T.s rfl rfl rfl (fun _ => rfl) ?_
            refine mm_T.s rfl rfl rfl (fun _ => rfl) ?_
            refine mm_T.s rfl rfl rfl (fun _ => rfl) ?_
            refine mm_T.s rfl rfl rfl (fun _ => rfl) ?_
            refine mm_T.s rfl rfl rfl (fun _ => rfl) ?_
            refine mm_T.s rfl rfl rfl (fun _ => rfl) ?_
            refine mm_T.s rfl rfl rfl (fun _ => if_neg (nI_pos (by omega))) ?_
            refine mm_T.s rfl rfl rfl (fun _ => rfl) ?_
            refine mm_T.gf rfl rfl rfl rfl rfl ?_
            refine mm_T.s rfl rfl rfl (fun _ => rfl) ?_
            refine mm_T.s rfl rfl rfl (fun _ => rfl) ?_
            refine mm_T.gf rfl rfl rfl rfl rfl ?_
            refine mm_T.s rfl rfl rfl (fun _ => rfl) ?_
            refine mm_T.iaN rfl rfl rfl (by omega) (by decide) rfl ?_
            refine mm_T.s rfl rfl rfl (fun _ => rfl) ?_
            refine mm_T.gf rfl rfl rfl rfl rfl ?_
            refine mm_T.s rfl rfl rfl (fun _ => rfl) ?_
            refine mm_T.iaN rfl rfl rfl (by omega) (by decide) rfl ?_
            refine mm_T.s rfl rfl rfl (fun _ => rfl) ?_
            refine mm_T.ti _ hx ?_
            refine mm_T.isN rfl rfl rfl (by omega) (by decide) rfl ?_
            refine mm_T.s rfl rfl rfl (fun _ => rfl) ?_
            refine mm_T.s rfl rfl rfl (fun _ => rfl) ?_
            refine mm_T.s rfl rfl rfl (fun _ => rfl) ?_
            refine mm_T.s rfl rfl rfl (fun _ => if_pos (nI_le (a := 0) (Nat.zero_le _) (by omega))) ?_
            refine mm_T.s rfl rfl rfl (fun _ => rfl) ?_
            refine mm_T.s rfl rfl rfl (fun _ => rfl) ?_
            refine mm_T.s rfl rfl rfl (fun _ => rfl) ?_
            refine mm_T.s rfl rfl rfl (fun _ => rfl) ?_
            exact K2 _ _ ⟨_, _, _, _, _, nI_1 i, hcy2, Or.inr ⟨j, rfl, f2_Kb_x (f2_d_x _ _ _ _) hkb hi hz⟩, rfl, rfl⟩
      · skip
        rintro _ _ ⟨x4, x5, y6, cy2, w, rfl, hcy, hfi, rfl, rfl⟩
        rcases hfi with ⟨rfl, hka⟩ | ⟨j, rfl, hkb⟩
        · skip
          refine mm_T.s rfl rfl rfl (fun _ => rfl) ?_
          refine mm_T.s rfl rfl rfl (fun _ => rfl) ?_
          refine mm_T.s rfl rfl rfl (fun _ => if_pos (nI_le (Nat.le_refl _) (by omega))) ?_
          refine mm_T.s rfl rfl rfl (fun _ => rfl) ?_
          refine mm_T.s rfl rfl rfl (fun _ => rfl) ?_
          refine mm_T.s rfl rfl rfl (fun _ => rfl) ?_
          refine mm_T.s rfl rfl rfl (fun _ => rfl) ?_
          exact K _ _ ⟨l, _, _, _, _, _, _, w, hl, rfl, nI_1 i0, hcy, f2_Ka_e hka, rfl, rfl⟩
        · have hjl := hkb.2.1
          obtain ⟨l2, rfl⟩ : ∃ l2, l = l2 + 1 := ⟨l - 1, by omega⟩
          have hcy2 : ∀ k, k < l2 → upd cy2 j (cy2 l2) k = nI ((fun k => if k = j then w l2 else w k) k) := fun k hk => by
            show upd cy2 j (cy2 l2) k = nI (if k = j then w l2 else w k)
            rw [x_ui]
            by_cases q : k = j
            · rw [if_pos q, if_pos q]
              exact hcy l2 (by omega)
            · rw [if_neg q, if_neg q]
              exact hcy k (by omega)
          refine mm_T.s rfl rfl rfl (fun _ => rfl) ?_
          refine mm_T.s rfl rfl rfl (fun _ => rfl) ?_
          refine mm_T.s rfl rfl rfl (fun _ => if_pos (nI_le (Nat.le_refl _) (by omega))) ?_
          refine mm_T.s rfl rfl rfl (fun _ => rfl) ?_
          refine mm_T.s rfl rfl rfl (fun _ => if_neg (nI_pos (by omega))) ?_
          refine mm_T.s rfl rfl rfl (fun _ => rfl) ?_
          refine mm_T.lc (L' := [some (.ref 25), some (.int (nI n)), some (.int (nI l2)), some (.int (nI i0)), some (.int (nI j)), some (.int (nI (l2 + 1))), y6]) (by rw [← x_dnw l2]) ?_
          refine mm_T.s rfl rfl rfl (fun _ => rfl) ?_
          refine mm_T.gf rfl rfl rfl rfl rfl ?_
          refine mm_T.s rfl rfl rfl (fun _ => rfl) ?_
          refine mm_T.s rfl rfl rfl (fun _ => rfl) ?_
          refine mm_T.gf rfl rfl rfl rfl rfl ?_
          refine mm_T.s rfl rfl rfl (fun _ => rfl) ?_
          refine mm_T.iaN rfl rfl rfl (by omega) (by decide) rfl ?_
          refine mm_T.isN rfl rfl rfl (by omega) (by decide) rfl ?_
          refine mm_T.s rfl rfl rfl (fun _ => rfl) ?_
          refine mm_T.s rfl rfl rfl (fun _ => rfl) ?_
          exact K _ _ ⟨l2, _, _, _, _, _, _, _, by omega, rfl, nI_1 i0, hcy2, f2_Kb_e (f2_d_0 _ _ _ _) (f2_d_x _ _ _ _) hkb, rfl, rfl⟩
    · skip
      rintro _ _ ⟨l, x2, x3, y4, y5, y6, cy1, w, hl, rfl, rfl, hcy, hk, rfl, rfl⟩
      refine mm_T.s rfl rfl rfl (fun _ => rfl) ?_
      refine mm_T.s rfl rfl rfl (fun _ => rfl) ?_
      refine mm_T.gf rfl rfl rfl rfl rfl ?_
      refine mm_T.s rfl rfl rfl (fun _ => if_pos (nI_le (Nat.le_refl _) (by omega))) ?_
      refine mm_T.s rfl rfl rfl (fun _ => rfl) ?_
      exact mm_T.ret rfl rfl rfl (⟨l, cy1, w, hl, hcy, hk, rfl, rfl⟩)
theorem m_productsE {c : Nat → mm_C} {has ke f cy sp e1 e2 e3 : Nat → Int32} {ma wo dv : Nat → Int64} {ro co di tr : Int32} {pl kq sz se : Nat → Int32} {n : Nat} (hn : n < 2) (hMI : x_MI has) (hJ : x_J1 pl kq has ke n) (hI : x_CI pl sz se) : mm_TC kM 115 [.ref 25, .int (nI n)] (kD c has ke f ma wo dv cy sp e1 e2 e3 ro co di tr) (fun v h => (∃ o, f2_O (x_tA pl se) (x_tB pl se) (x_tC pl se) (x_mn has n 2 255) (x_mn has n 1 255) o ∧ v = some (.int (nI o))) ∧ x_GM c has ke f h) := by
  have hb : nI n = 0 ∨ nI n = 1 := by
    have : n = 0 ∨ n = 1 := by omega
    rcases this with rfl | rfl
    · exact Or.inl rfl
    · exact Or.inr rfl
  have m1 := hMI n hn 1
  have m2 := hMI n hn 2
  refine mm_TC.of (M := kq_115) rfl rfl ?_
  refine mm_T.s rfl rfl rfl (fun _ => rfl) ?_
  refine mm_T.ic rfl rfl rfl rfl rfl (x_isC1 hb) ?_
  refine mm_T.s rfl rfl rfl (fun _ => rfl) ?_
  refine mm_T.s rfl rfl rfl (fun _ => rfl) ?_
  refine mm_T.s rfl rfl rfl (fun _ => rfl) ?_
  refine mm_T.up (n := 24) (P := fun i L h => ∃ x2 sp1, x2 = nI i ∧ (∀ b, b < i → sp1 b = 0) ∧ L = [some (.ref 25), some (.int (nI n)), some (.int x2), none, none, none, none, none] ∧ h = (kD c has ke f ma wo dv cy sp1 e1 e2 e3 ro co di tr)) ?_ ?_ 0 (Nat.zero_le _) _ _ ⟨_, _, rfl, fun b hb => absurd hb (Nat.not_lt_zero b), rfl, rfl⟩
  · skip
    rintro i _ _ hi ⟨x2, sp1, rfl, hsp, rfl, rfl⟩ K
    have hsp2 : ∀ b, b < i + 1 → upd sp1 i 0 b = 0 := fun b hb => by
      rw [x_ui]
      by_cases q : b = i
      · rw [if_pos q]
      · rw [if_neg q]
        exact hsp b (by omega)
    refine mm_T.s rfl rfl rfl (fun _ => rfl) ?_
    refine mm_T.s rfl rfl rfl (fun _ => rfl) ?_
    refine mm_T.s rfl rfl rfl (fun _ => if_neg (nI_ge (b := 24) hi (by decide))) ?_
    refine mm_T.s rfl rfl rfl (fun _ => rfl) ?_
    refine mm_T.gf rfl rfl rfl rfl rfl ?_
    refine mm_T.s rfl rfl rfl (fun _ => rfl) ?_
    refine mm_T.s rfl rfl rfl (fun _ => rfl) ?_
    refine mm_T.isN rfl rfl rfl (by omega) (by decide) rfl ?_
    refine mm_T.s rfl rfl rfl (fun _ => rfl) ?_
    refine mm_T.s rfl rfl rfl (fun _ => rfl) ?_
    exact K _ _ ⟨_, _, nI_1 i, hsp2, rfl, rfl⟩
  · skip
    rintro _ _ ⟨x2, sp1, rfl, hsp, rfl, rfl⟩
    have hS0 : f2_S sp1 (fun _ => 0) := fun b hb => ⟨hsp b hb, Nat.two_pow_pos _⟩
    have hh0 : f2_hi (fun _ => 0) := fun b _ => Or.inl rfl
    have hz0 : (f2_H (fun _ => 0) 24).length = 0 := rfl
    have hs00 : ∀ y, f2_s (f2_H (fun _ => 0) 24) y ↔ f2_s ((List.range 0).map (fun e => (f2_d (x_tA pl se) (x_tB pl se) (x_tC pl se) (x_mn has n 2 255)) (2 ^ e))) y := fun y => Iff.rfl
    refine mm_T.s rfl rfl rfl (fun _ => rfl) ?_
    refine mm_T.s rfl rfl rfl (fun _ => rfl) ?_
    refine mm_T.s rfl rfl rfl (fun _ => rfl) ?_
    refine mm_T.s rfl rfl rfl (fun _ => rfl) ?_
    refine mm_T.s rfl rfl rfl (fun _ => rfl) ?_
    refine mm_T.ivw rfl rfl rfl rfl rfl rfl (m_noteE hn hMI hJ hI) ?_
    rintro _ _ ⟨rfl, a1, a2, a3, hE, rfl⟩
    refine mm_T.s rfl rfl rfl (fun _ => rfl) ?_
    refine mm_T.s rfl rfl rfl (fun _ => rfl) ?_
    refine mm_T.s rfl rfl rfl (fun _ => rfl) ?_
    refine mm_T.s rfl rfl rfl (fun _ => rfl) ?_
    refine mm_T.s rfl rfl rfl (fun _ => rfl) ?_
    refine mm_T.iv rfl rfl rfl rfl rfl rfl (g_many rfl rfl hn 1) ?_
    refine mm_T.s rfl rfl rfl (fun _ => rfl) ?_
    refine mm_T.s rfl rfl rfl (fun _ => rfl) ?_
    refine mm_T.s rfl rfl rfl (fun _ => rfl) ?_
    refine mm_T.up (n := (x_mn has n 1 255)) (P := fun i L h => ∃ (x2 x4 : Int32) (sp1 : Nat → Int32) (l : Nat → Nat), x2 = nI (f2_H l 24).length ∧ x4 = nI i ∧ f2_S sp1 l ∧ f2_hi l ∧ (∀ y, f2_s (f2_H l 24) y ↔ f2_s ((List.range i).map (fun e => (f2_d (x_tA pl se) (x_tB pl se) (x_tC pl se) (x_mn has n 2 255)) (2 ^ e))) y) ∧ L = [some (.ref 25), some (.int (nI n)), some (.int x2), some (.int (nI (x_mn has n 1 255))), some (.int x4), none, none, none] ∧ h = (kD c has ke f ma wo dv cy sp1 a1 a2 a3 ro co di (nI (x_mn has n 2 255)))) ?_ ?_ 0 (Nat.zero_le _) _ _ ⟨_, _, _, _, congrArg nI hz0.symm, rfl, hS0, hh0, hs00, rfl, rfl⟩
    · skip
      rintro i _ _ hi ⟨x2, x4, sp1, l, rfl, rfl, hS, hh, hs, rfl, rfl⟩ K
      have hx : (f2_d (x_tA pl se) (x_tB pl se) (x_tC pl se) (x_mn has n 2 255)) (2 ^ i) < 2 ^ 24 := f2_24 (f2_d_lt _ _ _ _ _) m2
      have hp : 2 ^ i < 2 ^ 24 := Nat.pow_lt_pow_right (by decide) (by omega)
      have tk := f2_x_ok hh 24 ((f2_d (x_tA pl se) (x_tB pl se) (x_tC pl se) (x_mn has n 2 255)) (2 ^ i)) (Nat.le_refl _) hx
      have hs2 : ∀ y, f2_s (f2_H (f2_x l 24 ((f2_d (x_tA pl se) (x_tB pl se) (x_tC pl se) (x_mn has n 2 255)) (2 ^ i))).1 24) y ↔ f2_s ((List.range (i + 1)).map (fun e => (f2_d (x_tA pl se) (x_tB pl se) (x_tC pl se) (x_mn has n 2 255)) (2 ^ e))) y := fun y => by
        refine (tk.2.2 y).trans ?_
        rw [List.range_succ, List.map_append]
        constructor
        · intro q
          have q2 : f2_s ((f2_d (x_tA pl se) (x_tB pl se) (x_tC pl se) (x_mn has n 2 255)) (2 ^ i) :: ((List.range i).map (fun e => (f2_d (x_tA pl se) (x_tB pl se) (x_tC pl se) (x_mn has n 2 255)) (2 ^ e)))) y := Or.imp (hs _).mp (hs _).mp q
          refine f2_sub _ _ (fun a ha => f2_mem _ a ?_) y q2
          rcases List.mem_cons.mp ha with z | z
          · rw [z]
            exact List.mem_append_right _ (List.mem_singleton.mpr rfl)
          · exact List.mem_append_left _ z
        · intro q
          have q2 : f2_s ((f2_d (x_tA pl se) (x_tB pl se) (x_tC pl se) (x_mn has n 2 255)) (2 ^ i) :: ((List.range i).map (fun e => (f2_d (x_tA pl se) (x_tB pl se) (x_tC pl se) (x_mn has n 2 255)) (2 ^ e)))) y := f2_sub _ _ (fun a ha => f2_mem _ a (by
            rcases List.mem_append.mp ha with z | z
            · exact List.mem_cons_of_mem _ z
            · rw [List.mem_singleton.mp z]
              exact List.mem_cons_self)) y q
          exact Or.imp (hs _).mpr (hs _).mpr q2
      refine mm_T.s rfl rfl rfl (fun _ => rfl) ?_
      refine mm_T.s rfl rfl rfl (fun _ => rfl) ?_
      refine mm_T.s rfl rfl rfl (fun _ => if_neg (nI_ge hi (by omega))) ?_
      refine mm_T.s rfl rfl rfl (fun _ => rfl) ?_
      refine mm_T.s rfl rfl rfl (fun _ => rfl) ?_
      refine mm_T.s rfl rfl rfl (fun _ => rfl) ?_
      refine mm_T.s rfl rfl rfl (fun _ => rfl) ?_
      refine mm_T.s rfl rfl rfl (fun _ => rfl) ?_
      refine mm_T.s rfl rfl rfl (fun _ => rfl) ?_
      refine mm_T.ti (nI (2 ^ i)) ((f2_1s (by omega)).trans (by rw [Nat.one_mul])) ?_
      refine mm_T.ivw rfl rfl rfl rfl rfl rfl (m_cobE m2 hE hp) ?_
      rintro _ _ ⟨rfl, rfl⟩
      refine mm_T.ivw rfl rfl rfl rfl rfl rfl (m_extE hS _ hx) ?_
      rintro _ _ ⟨rfl, sp2, hS2, rfl⟩
      refine mm_T.s rfl rfl rfl (fun _ => rfl) ?_
      refine mm_T.s rfl rfl rfl (fun _ => rfl) ?_
      refine mm_T.s rfl rfl rfl (fun _ => rfl) ?_
      exact K _ _ ⟨_, _, _, _, congrArg nI tk.2.1.symm, nI_1 i, hS2, tk.1, hs2, rfl, rfl⟩
    · skip
      rintro _ _ ⟨x2, x4, sp1, l, rfl, rfl, hS, hh, hs0, rfl, rfl⟩
      have hh0 := hh
      refine mm_T.s rfl rfl rfl (fun _ => rfl) ?_
      refine mm_T.s rfl rfl rfl (fun _ => rfl) ?_
      refine mm_T.s rfl rfl rfl (fun _ => if_pos (nI_le (Nat.le_refl _) (by omega))) ?_
      refine mm_T.s rfl rfl rfl (fun _ => rfl) ?_
      refine mm_T.s rfl rfl rfl (fun _ => rfl) ?_
      refine mm_T.s rfl rfl rfl (fun _ => rfl) ?_
      refine mm_T.s rfl rfl rfl (fun _ => rfl) ?_
      refine mm_T.ivw rfl rfl rfl rfl rfl rfl (m_cocE m2 hE m1) ?_
      rintro _ _ ⟨m, cy1, w, hm, hcy, hk, rfl, rfl⟩
      refine mm_T.s rfl rfl rfl (fun _ => rfl) ?_
      refine mm_T.s rfl rfl rfl (fun _ => rfl) ?_
      refine mm_T.s rfl rfl rfl (fun _ => rfl) ?_
      refine mm_T.up (n := m) (P := fun i L h => ∃ (x2 x6 : Int32) (y7 : Option Value) (sp1 : Nat → Int32) (o : Nat) (k : Nat → Nat), x2 = nI ((f2_H l 24).length + o) ∧ x6 = nI i ∧ f2_S sp1 k ∧ f2_hi k ∧ f2_Y (f2_H l 24) (f2_vl w m) (f2_p (x_tA pl se) (x_tB pl se) (x_mn has n 2 255)) (f2_H k 24) o i 0 ∧ L = [some (.ref 25), some (.int (nI n)), some (.int x2), some (.int (nI (x_mn has n 1 255))), some (.int (nI (f2_H l 24).length)), some (.int (nI m)), some (.int x6), y7] ∧ h = (kD c has ke f ma wo dv cy1 sp1 a1 a2 a3 ro co di (nI (x_mn has n 2 255)))) ?_ ?_ 0 (Nat.zero_le _) _ _ ⟨_, _, _, _, 0, l, rfl, rfl, hS, hh, f2_Y_0 (f2_hi_i hh 24 (Nat.le_refl _)), rfl, rfl⟩
      · skip
        rintro i0 _ _ hi0 ⟨x2, x6, y7, sp1, o, k, rfl, rfl, hS, hh, hY, rfl, rfl⟩ K
        refine mm_T.s rfl rfl rfl (fun _ => rfl) ?_
        refine mm_T.s rfl rfl rfl (fun _ => rfl) ?_
        refine mm_T.s rfl rfl rfl (fun _ => if_neg (nI_ge hi0 (by omega))) ?_
        refine mm_T.s rfl rfl rfl (fun _ => rfl) ?_
        refine mm_T.s rfl rfl rfl (fun _ => rfl) ?_
        refine mm_T.up (n := m) (P := fun i L h => ∃ (x2 x7 : Int32) (sp1 : Nat → Int32) (o : Nat) (k : Nat → Nat), x2 = nI ((f2_H l 24).length + o) ∧ x7 = nI i ∧ f2_S sp1 k ∧ f2_hi k ∧ f2_Y (f2_H l 24) (f2_vl w m) (f2_p (x_tA pl se) (x_tB pl se) (x_mn has n 2 255)) (f2_H k 24) o i0 i ∧ L = [some (.ref 25), some (.int (nI n)), some (.int x2), some (.int (nI (x_mn has n 1 255))), some (.int (nI (f2_H l 24).length)), some (.int (nI m)), some (.int (nI i0)), some (.int x7)] ∧ h = (kD c has ke f ma wo dv cy1 sp1 a1 a2 a3 ro co di (nI (x_mn has n 2 255)))) ?_ ?_ 0 (Nat.zero_le _) _ _ ⟨_, _, _, _, _, rfl, rfl, hS, hh, hY, rfl, rfl⟩
        · skip
          rintro i _ _ hi ⟨x2, x7, sp1, o, k, rfl, rfl, hS, hh, hY, rfl, rfl⟩ K2
          have hx : ((f2_p (x_tA pl se) (x_tB pl se) (x_mn has n 2 255)) (w i0) (w i)) < 2 ^ 24 := f2_24 (f2_p_lt _ _ _ _ _) m2
          have tk := f2_x_ok hh 24 ((f2_p (x_tA pl se) (x_tB pl se) (x_mn has n 2 255)) (w i0) (w i)) (Nat.le_refl _) hx
          have hY2 := f2_Y_s hY (by rw [f2_vl_n]; exact hi0) (by rw [f2_vl_n]; exact hi) (f2_hi_i tk.1 24 (Nat.le_refl _)) tk.2.1 (by rw [f2_vl_g w m hi0, f2_vl_g w m hi]; exact tk.2.2)
          refine mm_T.s rfl rfl rfl (fun _ => rfl) ?_
          refine mm_T.s rfl rfl rfl (fun _ => rfl) ?_
          refine mm_T.s rfl rfl rfl (fun _ => if_neg (nI_ge hi (by omega))) ?_
          refine mm_T.s rfl rfl rfl (fun _ => rfl) ?_
          refine mm_T.s rfl rfl rfl (fun _ => rfl) ?_
          refine mm_T.s rfl rfl rfl (fun _ => rfl) ?_
          refine mm_T.s rfl rfl rfl (fun _ => rfl) ?_
          refine mm_T.gf rfl rfl rfl rfl rfl ?_
          refine mm_T.s rfl rfl rfl (fun _ => rfl) ?_
          refine mm_T.iaN rfl rfl rfl (by omega) (by decide) rfl ?_
          refine mm_T.ti _ (hcy i0 hi0) ?_
          refine mm_T.s rfl rfl rfl (fun _ => rfl) ?_
          refine mm_T.gf rfl rfl rfl rfl rfl ?_
          refine mm_T.s rfl rfl rfl (fun _ => rfl) ?_
          refine mm_T.iaN rfl rfl rfl (by omega) (by decide) rfl ?_
          refine mm_T.ti _ (hcy i hi) ?_
          refine mm_T.ivw rfl rfl rfl rfl rfl rfl (m_prodE m2 hE (f2_24 (hk.1 i0 hi0).1 m1) (f2_24 (hk.1 i hi).1 m1)) ?_
          rintro _ _ ⟨rfl, rfl⟩
          refine mm_T.ivw rfl rfl rfl rfl rfl rfl (m_extE hS _ hx) ?_
          rintro _ _ ⟨rfl, sp2, hS2, rfl⟩
          refine mm_T.s rfl rfl rfl (fun _ => rfl) ?_
          refine mm_T.s rfl rfl rfl (fun _ => rfl) ?_
          refine mm_T.s rfl rfl rfl (fun _ => rfl) ?_
          exact K2 _ _ ⟨_, _, _, _, _, congrArg nI (Nat.add_assoc _ _ _), nI_1 i, hS2, tk.1, hY2, rfl, rfl⟩
        · skip
          rintro _ _ ⟨x2, x7, sp1, o, k, rfl, rfl, hS, hh, hY, rfl, rfl⟩
          have hY3 : f2_Y (f2_H l 24) (f2_vl w m) (f2_p (x_tA pl se) (x_tB pl se) (x_mn has n 2 255)) (f2_H k 24) o (i0 + 1) 0 := f2_Y_n (by rw [f2_vl_n]; exact hY)
          refine mm_T.s rfl rfl rfl (fun _ => rfl) ?_
          refine mm_T.s rfl rfl rfl (fun _ => rfl) ?_
          refine mm_T.s rfl rfl rfl (fun _ => if_pos (nI_le (Nat.le_refl _) (by omega))) ?_
          refine mm_T.s rfl rfl rfl (fun _ => rfl) ?_
          refine mm_T.s rfl rfl rfl (fun _ => rfl) ?_
          exact K _ _ ⟨_, _, _, _, _, _, rfl, nI_1 i0, hS, hh, hY3, rfl, rfl⟩
      · skip
        rintro _ _ ⟨x2, x6, y7, sp1, o, k, rfl, rfl, hS, hh, hY, rfl, rfl⟩
        have hZ2 : ∀ z, z < 2 ^ (x_mn has n 1 255) → (f2_d (x_tA pl se) (x_tB pl se) (x_tC pl se) (x_mn has n 2 255)) z = 0 → f2_s (f2_vl w m) z := fun z hz hd => hk.2 z hz (fun b _ => by rw [hd, Nat.zero_testBit])
        have hZ1 : ∀ z, z ∈ (f2_vl w m) → (f2_d (x_tA pl se) (x_tB pl se) (x_tC pl se) (x_mn has n 2 255)) z = 0 ∧ z < 2 ^ (x_mn has n 1 255) := fun z hz => by
          obtain ⟨j, hj, ej⟩ := f2_vl_m.mp hz
          rw [← ej]
          refine ⟨Nat.eq_of_testBit_eq (fun b => ?_), (hk.1 j hj).1⟩
          rw [Nat.zero_testBit]
          by_cases q : b < (x_mn has n 2 255)
          · exact (hk.1 j hj).2 b q
          · exact Nat.testBit_lt_two_pow (Nat.lt_of_lt_of_le (f2_d_lt _ _ _ _ _) (Nat.pow_le_pow_right (by decide) (by omega)))
        refine mm_T.s rfl rfl rfl (fun _ => rfl) ?_
        refine mm_T.s rfl rfl rfl (fun _ => rfl) ?_
        refine mm_T.s rfl rfl rfl (fun _ => if_pos (nI_le (Nat.le_refl _) (by omega))) ?_
        refine mm_T.s rfl rfl rfl (fun _ => rfl) ?_
        refine mm_T.s rfl rfl rfl (fun _ => rfl) ?_
        refine mm_T.s rfl rfl rfl (fun _ => rfl) ?_
        exact mm_T.ret rfl rfl rfl (⟨⟨o, ⟨_, _, _, by rw [f2_vl_n]; exact hY, f2_hi_i hh0 24 (Nat.le_refl _), hs0, hZ1, hZ2⟩, congrArg (fun z => some (Value.int z)) (show nI ((f2_H l 24).length + o) - nI (f2_H l 24).length = nI o from by rw [x_nsub (Nat.le_add_right _ _), Nat.add_sub_cancel_left])⟩, _, _, _, _, _, _, _, _, _, _, _, _, rfl⟩)
theorem m_productsN {c : Nat → mm_C} {has ke f cy sp e1 e2 e3 : Nat → Int32} {ma wo dv : Nat → Int64} {ro co di tr : Int32} {b : Int32} (hb : ¬ (b = 0 ∨ b = 1)) : mm_TC kM 115 [.ref 25, .int b] (kD c has ke f ma wo dv cy sp e1 e2 e3 ro co di tr) (fun v h => v = some (.int (-1)) ∧ x_GM c has ke f h) := by
  refine mm_TC.of (M := kq_115) rfl rfl ?_
  refine mm_T.s rfl rfl rfl (fun _ => rfl) ?_
  refine mm_T.ic rfl rfl rfl rfl rfl (x_isC0 hb) ?_
  refine mm_T.s rfl rfl rfl (fun _ => rfl) ?_
  refine mm_T.s rfl rfl rfl (fun _ => rfl) ?_
  exact mm_T.ret rfl rfl rfl (⟨rfl, _, _, _, _, _, _, _, _, _, _, _, _, rfl⟩)
