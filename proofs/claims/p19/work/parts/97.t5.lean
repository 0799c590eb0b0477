/-! SPANS: the methods, exact -/
theorem mm_T.tl {G : List mm_M} {scr : mm_X} {k pc : Nat} {L : mm_L} {r : List Value} {h : mm_H} {Q : Option Value → mm_H → Prop} {x y : Int64} (e : x = y) (he : mm_T G scr k pc L (.long y :: r) h Q) : mm_T G scr k pc L (.long x :: r) h Q := e ▸ he
theorem f2_lb_eq {y i : Nat} (hi : i < 24) (h1 : ∀ c, c < i → y.testBit c = false) (h2 : y.testBit i = true) : f2_lb y 24 0 = i := by
  obtain ⟨b1, b2, b3, b4⟩ := f2_lb_ok y 24 0
  by_cases c : f2_lb y 24 0 < i
  · have z := b4 (by omega)
    rw [h1 _ c] at z
    cases z
  · by_cases d : i < f2_lb y 24 0
    · have z := b3 i (Nat.zero_le _) d
      rw [h2] at z
      cases z
    · omega
theorem f2_lb_no {y : Nat} (h1 : ∀ c, c < 24 → y.testBit c = false) : ¬ f2_lb y 24 0 < 24 := fun c => by
  obtain ⟨b1, b2, b3, b4⟩ := f2_lb_ok y 24 0
  have z := b4 (by omega)
  rw [h1 _ c] at z
  cases z
/-- the counter's rows as numbers -/
def f2_R (rw : Nat → Int64) (r : Nat → Nat) : Prop := ∀ b, b < 24 → rw b = lN (r b) ∧ r b < 2 ^ 60
theorem f2_r_lt {rw : Nat → Int64} {r : Nat → Nat} (h : f2_R rw r) : ∀ d b x, b + d = 24 → x < 2 ^ 60 → f2_r r d b x < 2 ^ 60
  | 0, _, _, _, hx => hx
  | d + 1, b, x, hb, hx => by
    refine f2_r_lt h d (b + 1) _ (by omega) ?_
    split
    · exact f2_xlt hx (h b (by omega)).2
    · exact hx
theorem q_red {pl0 ke0 sz0 se0 gr0 pl1 ke1 sz1 se1 gr1 im ce wo pv fa pm pw fr ba : Nat → Int32} {rw : Nat → Int64} {ro co mo : Int32} {mi : Int64} {ki : Int32} {M : mm_H} {r : Nat → Nat} (hR : f2_R rw r) {x : Nat} (hx : x < 2 ^ 60) : mm_TC kM 32 [.ref 21, .long (lN x)] (kC pl0 ke0 sz0 se0 gr0 pl1 ke1 sz1 se1 gr1 im ce wo pv fa pm pw fr ba rw ro co mo mi ki M) (fun v h => v = some (.long (lN (f2_r r 24 0 x))) ∧ h = (kC pl0 ke0 sz0 se0 gr0 pl1 ke1 sz1 se1 gr1 im ce wo pv fa pm pw fr ba rw ro co mo mi ki M)) := by
  refine mm_TC.of (M := kq_32) rfl rfl ?_
  refine mm_T.s rfl rfl rfl (fun _ => rfl) ?_
  refine mm_T.s rfl rfl rfl (fun _ => rfl) ?_
  refine mm_T.s rfl rfl rfl (fun _ => rfl) ?_
  refine mm_T.s rfl rfl rfl (fun _ => rfl) ?_
  refine mm_T.up (n := 24) (P := fun i L h => ∃ x1 x5, x5 = nI i ∧ x1 < 2 ^ 60 ∧ f2_r r (24 - i) i x1 = f2_r r 24 0 x ∧ L = [some (.ref 21), some (.long (lN x)), none, some (.long (lN x1)), none, some (.int x5)] ∧ h = (kC pl0 ke0 sz0 se0 gr0 pl1 ke1 sz1 se1 gr1 im ce wo pv fa pm pw fr ba rw ro co mo mi ki M)) ?_ ?_ 0 (Nat.zero_le _) _ _ ⟨_, _, rfl, hx, rfl, rfl, rfl⟩
  · skip
    rintro i _ _ hi ⟨x1, x5, rfl, hx1, he, rfl, rfl⟩ K
    obtain ⟨hri, hri60⟩ := hR i hi
    have ed : f2_r r (24 - i) i x1 = f2_r r (24 - (i + 1)) (i + 1) (if x1.testBit i then x1 ^^^ r i else x1) := by
      rw [show 24 - i = 24 - (i + 1) + 1 by omega]
      rfl
    rw [ed] at he
    refine mm_T.s rfl rfl rfl (fun _ => rfl) ?_
    refine mm_T.s rfl rfl rfl (fun _ => rfl) ?_
    refine mm_T.s rfl rfl rfl (fun _ => if_neg (nI_ge (b := 24) hi (by decide))) ?_
    refine mm_T.s rfl rfl rfl (fun _ => rfl) ?_
    refine mm_T.s rfl rfl rfl (fun _ => rfl) ?_
    refine mm_T.s rfl rfl rfl (fun _ => rfl) ?_
    refine mm_T.s rfl rfl rfl (fun _ => rfl) ?_
    refine mm_T.s rfl rfl rfl (fun _ => rfl) ?_
    refine mm_T.s rfl rfl rfl (fun _ => rfl) ?_
    refine mm_T.s rfl rfl rfl (fun _ => rfl) ?_
    refine mm_T.cz rfl rfl (fun hb20 => ?_) (fun hb20 => ?_)
    · skip
      have ht := (f2_lt1 (x := x1) (b := i) (by omega) (by omega)).mp hb20
      rw [if_neg (by rw [ht]; decide)] at he
      have hx2 := hx1
      refine mm_T.s rfl rfl rfl (fun _ => rfl) ?_
      refine mm_T.s rfl rfl rfl (fun _ => rfl) ?_
      exact K _ _ ⟨_, _, nI_1 i, hx2, he, rfl, rfl⟩
    · skip
      have ht : x1.testBit i = true := eq_true_of_ne_false (fun q => hb20 ((f2_lt1 (x := x1) (b := i) (by omega) (by omega)).mpr q))
      rw [if_pos ht] at he
      have hx2 := f2_xlt hx1 hri60
      refine mm_T.s rfl rfl rfl (fun _ => rfl) ?_
      refine mm_T.s rfl rfl rfl (fun _ => rfl) ?_
      refine mm_T.gf rfl rfl rfl rfl rfl ?_
      refine mm_T.s rfl rfl rfl (fun _ => rfl) ?_
      refine mm_T.laN rfl rfl rfl (by omega) (by decide) rfl ?_
      refine mm_T.s rfl rfl rfl (fun _ => rfl) ?_
      refine mm_T.tl (show lN x1 ^^^ rw i = lN (x1 ^^^ r i) by rw [hri]; exact f2_lx (by omega) (by omega)) ?_
      refine mm_T.s rfl rfl rfl (fun _ => rfl) ?_
      refine mm_T.s rfl rfl rfl (fun _ => rfl) ?_
      refine mm_T.s rfl rfl rfl (fun _ => rfl) ?_
      exact K _ _ ⟨_, _, nI_1 i, hx2, he, rfl, rfl⟩
  · skip
    rintro _ _ ⟨x1, x5, rfl, hx1, he, rfl, rfl⟩
    refine mm_T.s rfl rfl rfl (fun _ => rfl) ?_
    refine mm_T.s rfl rfl rfl (fun _ => rfl) ?_
    refine mm_T.s rfl rfl rfl (fun _ => rfl) ?_
    refine mm_T.s rfl rfl rfl (fun _ => rfl) ?_
    exact mm_T.ret rfl rfl rfl (⟨by rw [← he]; rfl, rfl⟩)
theorem q_take {pl0 ke0 sz0 se0 gr0 pl1 ke1 sz1 se1 gr1 im ce wo pv fa pm pw fr ba : Nat → Int32} {rw : Nat → Int64} {ro co mo : Int32} {mi : Int64} {ki : Int32} {M : mm_H} {r : Nat → Nat} (hR : f2_R rw r) {x : Nat} (hx : x < 2 ^ 60) : mm_TC kM 33 [.ref 21, .long (lN x)] (kC pl0 ke0 sz0 se0 gr0 pl1 ke1 sz1 se1 gr1 im ce wo pv fa pm pw fr ba rw ro co mo mi ki M) (fun v h => v = some (.int (nI (f2_t r x).2)) ∧ ∃ rw1, f2_R rw1 (f2_t r x).1 ∧ h = (kC pl0 ke0 sz0 se0 gr0 pl1 ke1 sz1 se1 gr1 im ce wo pv fa pm pw fr ba rw1 ro co mo mi ki M)) := by
  have hY := f2_r_lt hR 24 0 x rfl hx
  refine mm_TC.of (M := kq_33) rfl rfl ?_
  refine mm_T.s rfl rfl rfl (fun _ => rfl) ?_
  refine mm_T.s rfl rfl rfl (fun _ => rfl) ?_
  refine mm_T.ivw rfl rfl rfl rfl rfl rfl (q_red hR hx) ?_
  rintro _ _ ⟨rfl, rfl⟩
  refine mm_T.s rfl rfl rfl (fun _ => rfl) ?_
  refine mm_T.s rfl rfl rfl (fun _ => rfl) ?_
  refine mm_T.s rfl rfl rfl (fun _ => rfl) ?_
  refine mm_T.up (n := 24) (P := fun i L h => ∃ x5, x5 = nI i ∧ (∀ c, c < i → (f2_r r 24 0 x).testBit c = false) ∧ L = [some (.ref 21), some (.long (lN x)), none, some (.long (lN (f2_r r 24 0 x))), none, some (.int x5)] ∧ h = (kC pl0 ke0 sz0 se0 gr0 pl1 ke1 sz1 se1 gr1 im ce wo pv fa pm pw fr ba rw ro co mo mi ki M)) ?_ ?_ 0 (Nat.zero_le _) _ _ ⟨_, rfl, fun c hc => absurd hc (Nat.not_lt_zero c), rfl, rfl⟩
  · skip
    rintro i _ _ hi ⟨x5, rfl, hz, rfl, rfl⟩ K
    refine mm_T.s rfl rfl rfl (fun _ => rfl) ?_
    refine mm_T.s rfl rfl rfl (fun _ => rfl) ?_
    refine mm_T.s rfl rfl rfl (fun _ => if_neg (nI_ge (b := 24) hi (by decide))) ?_
    refine mm_T.s rfl rfl rfl (fun _ => rfl) ?_
    refine mm_T.s rfl rfl rfl (fun _ => rfl) ?_
    refine mm_T.s rfl rfl rfl (fun _ => rfl) ?_
    refine mm_T.s rfl rfl rfl (fun _ => rfl) ?_
    refine mm_T.s rfl rfl rfl (fun _ => rfl) ?_
    refine mm_T.s rfl rfl rfl (fun _ => rfl) ?_
    refine mm_T.s rfl rfl rfl (fun _ => rfl) ?_
    refine mm_T.cz rfl rfl (fun hb24 => ?_) (fun hb24 => ?_)
    · skip
      have ht := (f2_lt1 (x := (f2_r r 24 0 x)) (b := i) (by omega) (by omega)).mp hb24
      have hz2 : ∀ c, c < i + 1 → (f2_r r 24 0 x).testBit c = false := fun c hc => by
        by_cases q : c = i
        · rw [q]
          exact ht
        · exact hz c (by omega)
      refine mm_T.s rfl rfl rfl (fun _ => rfl) ?_
      refine mm_T.s rfl rfl rfl (fun _ => rfl) ?_
      exact K _ _ ⟨_, nI_1 i, hz2, rfl, rfl⟩
    · skip
      have ht : (f2_r r 24 0 x).testBit i = true := eq_true_of_ne_false (fun q => hb24 ((f2_lt1 (x := (f2_r r 24 0 x)) (b := i) (by omega) (by omega)).mpr q))
      have elb := f2_lb_eq hi hz ht
      have et : f2_t r x = (fun c => if c = i then (f2_r r 24 0 x) else r c, 1) := by
        unfold f2_t
        rw [elb, if_pos hi]
      have hR2 : f2_R (vp_updL rw i (lN (f2_r r 24 0 x))) (f2_t r x).1 := fun b hb => by
        rw [et, x_ul]
        show _ = lN (if b = i then _ else _) ∧ (if b = i then _ else _) < 2 ^ 60
        by_cases q : b = i
        · rw [if_pos q, if_pos q]
          exact ⟨rfl, hY⟩
        · rw [if_neg q, if_neg q]
          exact hR b hb
      refine mm_T.s rfl rfl rfl (fun _ => rfl) ?_
      refine mm_T.gf rfl rfl rfl rfl rfl ?_
      refine mm_T.s rfl rfl rfl (fun _ => rfl) ?_
      refine mm_T.s rfl rfl rfl (fun _ => rfl) ?_
      refine mm_T.lsN rfl rfl rfl (by omega) (by decide) rfl ?_
      refine mm_T.s rfl rfl rfl (fun _ => rfl) ?_
      exact mm_T.ret rfl rfl rfl (⟨by rw [et]; rfl, _, hR2, rfl⟩)
  · skip
    rintro _ _ ⟨x5, rfl, hz, rfl, rfl⟩
    have et : f2_t r x = (r, 0) := by
      unfold f2_t
      rw [if_neg (f2_lb_no hz)]
    refine mm_T.s rfl rfl rfl (fun _ => rfl) ?_
    refine mm_T.s rfl rfl rfl (fun _ => rfl) ?_
    refine mm_T.s rfl rfl rfl (fun _ => rfl) ?_
    refine mm_T.s rfl rfl rfl (fun _ => rfl) ?_
    exact mm_T.ret rfl rfl rfl (⟨by rw [et]; rfl, _, by rw [et]; exact hR, rfl⟩)
theorem q_drop {pl0 ke0 sz0 se0 gr0 pl1 ke1 sz1 se1 gr1 im ce wo pv fa pm pw fr ba : Nat → Int32} {rw : Nat → Int64} {ro co mo : Int32} {mi : Int64} {ki : Int32} {M : mm_H} : mm_TC kM 31 [.ref 21] (kC pl0 ke0 sz0 se0 gr0 pl1 ke1 sz1 se1 gr1 im ce wo pv fa pm pw fr ba rw ro co mo mi ki M) (fun v h => v = none ∧ ∃ rw1, f2_R rw1 (fun _ => 0) ∧ h = (kC pl0 ke0 sz0 se0 gr0 pl1 ke1 sz1 se1 gr1 im ce wo pv fa pm pw fr ba rw1 ro co mo mi ki M)) := by
  refine mm_TC.of (M := kq_31) rfl rfl ?_
  refine mm_T.s rfl rfl rfl (fun _ => rfl) ?_
  refine mm_T.gf rfl rfl rfl rfl rfl ?_
  refine mm_T.s rfl rfl rfl (fun _ => rfl) ?_
  refine mm_T.ic rfl rfl rfl rfl rfl (x_fillL rfl (by decide)) ?_
  exact mm_T.ret rfl rfl rfl (⟨rfl, _, fun b hb => ⟨if_pos hb, Nat.two_pow_pos _⟩, rfl⟩)
def f2_S (sp : Nat → Int32) (l : Nat → Nat) : Prop := ∀ b, b < 24 → sp b = nI (l b) ∧ l b < 2 ^ 24
theorem m_extE {c : Nat → mm_C} {has ke f cy sp e1 e2 e3 : Nat → Int32} {ma wo dv : Nat → Int64} {ro co di tr : Int32} {l : Nat → Nat} (hS : f2_S sp l) (cnt : Nat) {x : Nat} (hx : x < 2 ^ 24) : mm_TC kM 110 [.ref 25, .int (nI cnt), .int (nI x)] (kD c has ke f ma wo dv cy sp e1 e2 e3 ro co di tr) (fun v h => v = some (.int (nI (cnt + (f2_x l 24 x).2))) ∧ ∃ sp1, f2_S sp1 (f2_x l 24 x).1 ∧ h = (kD c has ke f ma wo dv cy sp1 e1 e2 e3 ro co di tr)) := by
  refine mm_TC.of (M := kq_110) rfl rfl ?_
  refine mm_T.s rfl rfl rfl (fun _ => rfl) ?_
  refine mm_T.s rfl rfl rfl (fun _ => rfl) ?_
  refine mm_T.s rfl rfl rfl (fun _ => rfl) ?_
  refine mm_T.s rfl rfl rfl (fun _ => rfl) ?_
  refine mm_T.up (n := 24) (P := fun i L h => ∃ x1 x3 x4, (i < 24 → x4 = nI (23 - i)) ∧ (i = 24 → x4 = -1) ∧ x3 = nI x1 ∧ x1 < 2 ^ 24 ∧ f2_x l (24 - i) x1 = f2_x l 24 x ∧ L = [some (.ref 25), some (.int (nI cnt)), some (.int (nI x)), some (.int x3), some (.int x4)] ∧ h = (kD c has ke f ma wo dv cy sp e1 e2 e3 ro co di tr)) ?_ ?_ 0 (Nat.zero_le _) _ _ ⟨_, _, _, fun _ => rfl, fun q => absurd q (by decide), rfl, hx, rfl, rfl, rfl⟩
  · skip
    rintro i _ _ hi ⟨x1, x3, x4, hx4, -, rfl, hx1, he, rfl, rfl⟩ K
    have hx4 := hx4 hi
    subst hx4
    obtain ⟨b, hb⟩ : ∃ b, b = 23 - i := ⟨_, rfl⟩
    rw [← hb]
    have hb24 : b < 24 := by omega
    obtain ⟨hsb, hsl⟩ := hS b hb24
    have ed : f2_x l (24 - i) x1 = if x1.testBit b then (if l b = 0 then (fun c => if c = b then x1 else l c, 1) else f2_x l b (x1 ^^^ l b)) else f2_x l b x1 := by
      rw [show 24 - i = b + 1 by omega]
      rfl
    rw [ed] at he
    have hd1 : i + 1 < 24 → nI b + Int32.ofInt (-1) = nI (23 - (i + 1)) := fun q => by
      have e : b = 23 - (i + 1) + 1 := by omega
      rw [e]
      exact x_dnw _
    have hd2 : i + 1 = 24 → nI b + Int32.ofInt (-1) = -1 := fun q => by
      have e : b = 0 := by omega
      rw [e]
      rfl
    have e24 : 24 - (i + 1) = b := by omega
    refine mm_T.s rfl rfl rfl (fun _ => rfl) ?_
    refine mm_T.s rfl rfl rfl (fun _ => if_neg (nI_pos (by omega))) ?_
    refine mm_T.s rfl rfl rfl (fun _ => rfl) ?_
    refine mm_T.s rfl rfl rfl (fun _ => rfl) ?_
    refine mm_T.s rfl rfl rfl (fun _ => rfl) ?_
    refine mm_T.s rfl rfl rfl (fun _ => rfl) ?_
    refine mm_T.s rfl rfl rfl (fun _ => rfl) ?_
    refine mm_T.ti _ (f2_it1 (by omega) (by omega)) ?_
    refine mm_T.s rfl rfl rfl (fun _ => rfl) ?_
    refine mm_T.ci rfl rfl (fun hb18 => ?_) (fun hb18 => ?_)
    · skip
      have ht : x1.testBit b = false := Bool.eq_false_iff.mpr (fun q => hb18 (by rw [q]; rfl))
      rw [if_neg (by rw [ht]; decide)] at he
      have hx2 := hx1
      refine mm_T.s rfl rfl rfl (fun _ => rfl) ?_
      refine mm_T.s rfl rfl rfl (fun _ => rfl) ?_
      exact K _ _ ⟨_, _, _, hd1, hd2, rfl, hx2, by rw [e24]; exact he, rfl, rfl⟩
    · skip
      have ht : x1.testBit b = true := eq_true_of_ne_false (fun q => hb18 (show ¬ _ = _ from by rw [q]; decide))
      rw [if_pos ht] at he
      refine mm_T.s rfl rfl rfl (fun _ => rfl) ?_
      refine mm_T.gf rfl rfl rfl rfl rfl ?_
      refine mm_T.s rfl rfl rfl (fun _ => rfl) ?_
      refine mm_T.iaN rfl rfl rfl (by omega) (by decide) rfl ?_
      refine mm_T.cz rfl rfl (fun hb28 => ?_) (fun hb28 => ?_)
      · skip
        have hz : ¬ l b = 0 := fun q => hb28 (by rw [hsb, q]; rfl)
        rw [if_neg hz] at he
        have hx2 := f2_xlt hx1 hsl
        refine mm_T.s rfl rfl rfl (fun _ => rfl) ?_
        refine mm_T.s rfl rfl rfl (fun _ => rfl) ?_
        refine mm_T.gf rfl rfl rfl rfl rfl ?_
        refine mm_T.s rfl rfl rfl (fun _ => rfl) ?_
        refine mm_T.iaN rfl rfl rfl (by omega) (by decide) rfl ?_
        refine mm_T.s rfl rfl rfl (fun _ => rfl) ?_
        refine mm_T.ti _ (show nI x1 ^^^ sp b = nI (x1 ^^^ l b) by rw [hsb]; exact f2_ix (by omega) (by omega)) ?_
        refine mm_T.s rfl rfl rfl (fun _ => rfl) ?_
        refine mm_T.s rfl rfl rfl (fun _ => rfl) ?_
        refine mm_T.s rfl rfl rfl (fun _ => rfl) ?_
        exact K _ _ ⟨_, _, _, hd1, hd2, rfl, hx2, by rw [e24]; exact he, rfl, rfl⟩
      · skip
        have hz : l b = 0 := (nI_eq (by omega) (by omega)).mp (hsb.symm.trans (Classical.not_not.mp hb28))
        rw [if_pos hz] at he
        have hS2 : f2_S (upd sp b (nI x1)) (f2_x l 24 x).1 := fun c hc => by
          rw [← he, x_ui]
          show _ = nI (if c = b then _ else _) ∧ (if c = b then _ else _) < 2 ^ 24
          by_cases q : c = b
          · rw [if_pos q, if_pos q]
            exact ⟨rfl, hx1⟩
          · rw [if_neg q, if_neg q]
            exact hS c hc
        refine mm_T.s rfl rfl rfl (fun _ => rfl) ?_
        refine mm_T.gf rfl rfl rfl rfl rfl ?_
        refine mm_T.s rfl rfl rfl (fun _ => rfl) ?_
        refine mm_T.s rfl rfl rfl (fun _ => rfl) ?_
        refine mm_T.isN rfl rfl rfl (by omega) (by decide) rfl ?_
        refine mm_T.s rfl rfl rfl (fun _ => rfl) ?_
        refine mm_T.s rfl rfl rfl (fun _ => rfl) ?_
        refine mm_T.s rfl rfl rfl (fun _ => rfl) ?_
        exact mm_T.ret rfl rfl rfl (⟨by rw [← he]; exact congrArg (fun z => some (Value.int z)) (nI_1 cnt), _, hS2, rfl⟩)
  · skip
    rintro _ _ ⟨x1, x3, x4, -, hx4, rfl, hx1, he, rfl, rfl⟩
    have hx4 := hx4 rfl
    subst hx4
    have he : (l, 0) = f2_x l 24 x := he
    refine mm_T.s rfl rfl rfl (fun _ => rfl) ?_
    refine mm_T.s rfl rfl rfl (fun _ => rfl) ?_
    refine mm_T.s rfl rfl rfl (fun _ => rfl) ?_
    exact mm_T.ret rfl rfl rfl (⟨by rw [← he]; rfl, _, by rw [← he]; exact hS, rfl⟩)
/-- the three edges of each triangle -/
def f2_E (tn : Nat) (e1 e2 e3 : Nat → Int32) (A B C : Nat → Nat) : Prop := ∀ t, t < tn → (e1 t = nI (A t) ∧ A t < 24) ∧ (e2 t = nI (B t) ∧ B t < 24) ∧ e3 t = nI (C t) ∧ C t < 24
theorem f2_bs (f : Nat → Bool) (t : Nat) {o : Nat} (ho : o = if f t then 1 else 0) : f2_b f t ||| o * 2 ^ t = f2_b f (t + 1) := by
  show _ = f2_b f t ||| (if f t then 2 ^ t else 0)
  rw [ho]
  cases f t
  · rw [if_neg (by decide), if_neg (by decide), Nat.zero_mul]
  · rw [if_pos rfl, if_pos rfl, Nat.one_mul]
theorem f2_par (z a b c : Nat) : (z / 2 ^ a + z / 2 ^ b + z / 2 ^ c) % 2 = if (z.testBit a).xor ((z.testBit b).xor (z.testBit c)) then 1 else 0 := by
  rw [Nat.testBit_eq_decide_div_mod_eq, Nat.testBit_eq_decide_div_mod_eq, Nat.testBit_eq_decide_div_mod_eq]
  have h1 : z / 2 ^ a % 2 = 0 ∨ z / 2 ^ a % 2 = 1 := by omega
  have h2 : z / 2 ^ b % 2 = 0 ∨ z / 2 ^ b % 2 = 1 := by omega
  have h3 : z / 2 ^ c % 2 = 0 ∨ z / 2 ^ c % 2 = 1 := by omega
  rcases h1 with h1 | h1 <;> rcases h2 with h2 | h2 <;> rcases h3 with h3 | h3 <;> simp only [h1, h2, h3] <;> simp <;> omega
theorem m_cobE {c : Nat → mm_C} {has ke f cy sp e1 e2 e3 : Nat → Int32} {ma wo dv : Nat → Int64} {ro co di : Int32} {tn : Nat} (ht : tn ≤ 24) {A B C : Nat → Nat} (hE : f2_E tn e1 e2 e3 A B C) {z : Nat} (hz : z < 2 ^ 24) : mm_TC kM 112 [.ref 25, .int (nI z)] (kD c has ke f ma wo dv cy sp e1 e2 e3 ro co di (nI tn)) (fun v h => v = some (.int (nI (f2_d A B C tn z))) ∧ h = (kD c has ke f ma wo dv cy sp e1 e2 e3 ro co di (nI tn))) := by
  refine mm_TC.of (M := kq_112) rfl rfl ?_
  refine mm_T.s rfl rfl rfl (fun _ => rfl) ?_
  refine mm_T.s rfl rfl rfl (fun _ => rfl) ?_
  refine mm_T.s rfl rfl rfl (fun _ => rfl) ?_
  refine mm_T.s rfl rfl rfl (fun _ => rfl) ?_
  refine mm_T.up (n := tn) (P := fun i L h => ∃ x2 x3 y4, x3 = nI i ∧ x2 = nI (f2_b (fun t => (z.testBit (A t)).xor ((z.testBit (B t)).xor (z.testBit (C t)))) i) ∧ L = [some (.ref 25), some (.int (nI z)), some (.int x2), some (.int x3), y4] ∧ h = (kD c has ke f ma wo dv cy sp e1 e2 e3 ro co di (nI tn))) ?_ ?_ 0 (Nat.zero_le _) _ _ ⟨_, _, _, rfl, rfl, rfl, rfl⟩
  · skip
    rintro i _ _ hi ⟨x2, x3, y4, rfl, rfl, rfl, rfl⟩ K
    obtain ⟨⟨q1, l1⟩, ⟨q2, l2⟩, q3, l3⟩ := hE i hi
    have d1 : z / 2 ^ A i ≤ z := Nat.div_le_self _ _
    have d2 : z / 2 ^ B i ≤ z := Nat.div_le_self _ _
    have d3 : z / 2 ^ C i ≤ z := Nat.div_le_self _ _
    have hpar := f2_par z (A i) (B i) (C i)
    have hlt : (z / 2 ^ A i + z / 2 ^ B i + z / 2 ^ C i) % 2 * 2 ^ i < 2 ^ 32 := by
      have h1 : (z / 2 ^ A i + z / 2 ^ B i + z / 2 ^ C i) % 2 ≤ 1 := by omega
      have h2 : 2 ^ i ≤ 2 ^ 24 := Nat.pow_le_pow_right (by decide) (by omega)
      have h3 := Nat.mul_le_mul h1 h2
      omega
    have hs := f2_bs (fun t => (z.testBit (A t)).xor ((z.testBit (B t)).xor (z.testBit (C t)))) i (o := (z / 2 ^ A i + z / 2 ^ B i + z / 2 ^ C i) % 2) hpar
    refine mm_T.s rfl rfl rfl (fun _ => rfl) ?_
    refine mm_T.s rfl rfl rfl (fun _ => rfl) ?_
    refine mm_T.gf rfl rfl rfl rfl rfl ?_
    refine mm_T.s rfl rfl rfl (fun _ => if_neg (nI_ge hi (by omega))) ?_
    refine mm_T.s rfl rfl rfl (fun _ => rfl) ?_
    refine mm_T.s rfl rfl rfl (fun _ => rfl) ?_
    refine mm_T.gf rfl rfl rfl rfl rfl ?_
    refine mm_T.s rfl rfl rfl (fun _ => rfl) ?_
    refine mm_T.iaN rfl rfl rfl (by omega) (by decide) rfl ?_
    refine mm_T.s rfl rfl rfl (fun _ => rfl) ?_
    refine mm_T.ti _ (show nI z >>> (e1 i &&& 31) = nI (z / 2 ^ A i) by rw [q1]; exact f2_is (by omega) (by omega)) ?_
    refine mm_T.s rfl rfl rfl (fun _ => rfl) ?_
    refine mm_T.s rfl rfl rfl (fun _ => rfl) ?_
    refine mm_T.gf rfl rfl rfl rfl rfl ?_
    refine mm_T.s rfl rfl rfl (fun _ => rfl) ?_
    refine mm_T.iaN rfl rfl rfl (by omega) (by decide) rfl ?_
    refine mm_T.s rfl rfl rfl (fun _ => rfl) ?_
    refine mm_T.ti _ (show nI z >>> (e2 i &&& 31) = nI (z / 2 ^ B i) by rw [q2]; exact f2_is (by omega) (by omega)) ?_
    refine mm_T.s rfl rfl rfl (fun _ => rfl) ?_
    refine mm_T.ti _ (nI_add _ _) ?_
    refine mm_T.s rfl rfl rfl (fun _ => rfl) ?_
    refine mm_T.s rfl rfl rfl (fun _ => rfl) ?_
    refine mm_T.gf rfl rfl rfl rfl rfl ?_
    refine mm_T.s rfl rfl rfl (fun _ => rfl) ?_
    refine mm_T.iaN rfl rfl rfl (by omega) (by decide) rfl ?_
    refine mm_T.s rfl rfl rfl (fun _ => rfl) ?_
    refine mm_T.ti _ (show nI z >>> (e3 i &&& 31) = nI (z / 2 ^ C i) by rw [q3]; exact f2_is (by omega) (by omega)) ?_
    refine mm_T.s rfl rfl rfl (fun _ => rfl) ?_
    refine mm_T.ti _ (nI_add _ _) ?_
    refine mm_T.s rfl rfl rfl (fun _ => rfl) ?_
    refine mm_T.s rfl rfl rfl (fun _ => rfl) ?_
    refine mm_T.ti _ (f2_i1 (by omega)) ?_
    refine mm_T.s rfl rfl rfl (fun _ => rfl) ?_
    refine mm_T.s rfl rfl rfl (fun _ => rfl) ?_
    refine mm_T.s rfl rfl rfl (fun _ => rfl) ?_
    refine mm_T.s rfl rfl rfl (fun _ => rfl) ?_
    refine mm_T.s rfl rfl rfl (fun _ => rfl) ?_
    refine mm_T.ti _ (f2_ish (by omega) hlt) ?_
    refine mm_T.s rfl rfl rfl (fun _ => rfl) ?_
    refine mm_T.ti (nI (f2_b (fun t => (z.testBit (A t)).xor ((z.testBit (B t)).xor (z.testBit (C t)))) (i + 1))) (by rw [← hs]; exact x_or _ _) ?_
    refine mm_T.s rfl rfl rfl (fun _ => rfl) ?_
    refine mm_T.s rfl rfl rfl (fun _ => rfl) ?_
    refine mm_T.s rfl rfl rfl (fun _ => rfl) ?_
    exact K _ _ ⟨_, _, _, nI_1 i, rfl, rfl, rfl⟩
  · skip
    rintro _ _ ⟨x2, x3, y4, rfl, rfl, rfl, rfl⟩
    refine mm_T.s rfl rfl rfl (fun _ => rfl) ?_
    refine mm_T.s rfl rfl rfl (fun _ => rfl) ?_
    refine mm_T.gf rfl rfl rfl rfl rfl ?_
    refine mm_T.s rfl rfl rfl (fun _ => if_pos (nI_le (Nat.le_refl _) (by omega))) ?_
    refine mm_T.s rfl rfl rfl (fun _ => rfl) ?_
    exact mm_T.ret rfl rfl rfl (⟨rfl, rfl⟩)
theorem m_prodE {c : Nat → mm_C} {has ke f cy sp e1 e2 e3 : Nat → Int32} {ma wo dv : Nat → Int64} {ro co di : Int32} {tn : Nat} (ht : tn ≤ 24) {A B C : Nat → Nat} (hE : f2_E tn e1 e2 e3 A B C) {x y : Nat} (hx : x < 2 ^ 24) (hy : y < 2 ^ 24) : mm_TC kM 114 [.ref 25, .int (nI x), .int (nI y)] (kD c has ke f ma wo dv cy sp e1 e2 e3 ro co di (nI tn)) (fun v h => v = some (.int (nI (f2_p A B tn x y))) ∧ h = (kD c has ke f ma wo dv cy sp e1 e2 e3 ro co di (nI tn))) := by
  refine mm_TC.of (M := kq_114) rfl rfl ?_
  refine mm_T.s rfl rfl rfl (fun _ => rfl) ?_
  refine mm_T.s rfl rfl rfl (fun _ => rfl) ?_
  refine mm_T.s rfl rfl rfl (fun _ => rfl) ?_
  refine mm_T.s rfl rfl rfl (fun _ => rfl) ?_
  refine mm_T.up (n := tn) (P := fun i L h => ∃ x3 x4, x4 = nI i ∧ x3 = nI (f2_b (fun t => x.testBit (A t) && y.testBit (B t)) i) ∧ L = [some (.ref 25), some (.int (nI x)), some (.int (nI y)), some (.int x3), some (.int x4)] ∧ h = (kD c has ke f ma wo dv cy sp e1 e2 e3 ro co di (nI tn))) ?_ ?_ 0 (Nat.zero_le _) _ _ ⟨_, _, rfl, rfl, rfl, rfl⟩
  · skip
    rintro i _ _ hi ⟨x3, x4, rfl, rfl, rfl, rfl⟩ K
    obtain ⟨⟨q1, l1⟩, ⟨q2, l2⟩, q3, l3⟩ := hE i hi
    have d1 : x / 2 ^ A i ≤ x := Nat.div_le_self _ _
    have d2 : y / 2 ^ B i ≤ y := Nat.div_le_self _ _
    have d3 : x / 2 ^ A i &&& y / 2 ^ B i < 2 ^ 24 := Nat.and_lt_two_pow _ (by omega)
    have ho : (x / 2 ^ A i &&& y / 2 ^ B i) % 2 = if (fun t => x.testBit (A t) && y.testBit (B t)) i then 1 else 0 := by
      show _ = if (x.testBit (A i) && y.testBit (B i)) = true then 1 else 0
      have e : (x / 2 ^ A i &&& y / 2 ^ B i).testBit 0 = (x.testBit (A i) && y.testBit (B i)) := by rw [Nat.testBit_and, Nat.testBit_div_two_pow, Nat.testBit_div_two_pow, Nat.zero_add, Nat.zero_add]
      rw [← e, Nat.testBit_zero]
      by_cases c : (x / 2 ^ A i &&& y / 2 ^ B i) % 2 = 1
      · rw [decide_eq_true c, if_pos rfl, c]
      · rw [decide_eq_false c, if_neg (by decide)]
        omega
    have hlt : (x / 2 ^ A i &&& y / 2 ^ B i) % 2 * 2 ^ i < 2 ^ 32 := by
      have h1 : (x / 2 ^ A i &&& y / 2 ^ B i) % 2 ≤ 1 := by omega
      have h2 : 2 ^ i ≤ 2 ^ 24 := Nat.pow_le_pow_right (by decide) (by omega)
      have h3 := Nat.mul_le_mul h1 h2
      omega
    have hs := f2_bs (fun t => x.testBit (A t) && y.testBit (B t)) i ho
    refine mm_T.s rfl rfl rfl (fun _ => rfl) ?_
    refine mm_T.s rfl rfl rfl (fun _ => rfl) ?_
    refine mm_T.gf rfl rfl rfl rfl rfl ?_
    refine mm_T.s rfl rfl rfl (fun _ => if_neg (nI_ge hi (by omega))) ?_
    refine mm_T.s rfl rfl rfl (fun _ => rfl) ?_
    refine mm_T.s rfl rfl rfl (fun _ => rfl) ?_
    refine mm_T.s rfl rfl rfl (fun _ => rfl) ?_
    refine mm_T.gf rfl rfl rfl rfl rfl ?_
    refine mm_T.s rfl rfl rfl (fun _ => rfl) ?_
    refine mm_T.iaN rfl rfl rfl (by omega) (by decide) rfl ?_
    refine mm_T.s rfl rfl rfl (fun _ => rfl) ?_
    refine mm_T.ti _ (show nI x >>> (e1 i &&& 31) = nI (x / 2 ^ A i) by rw [q1]; exact f2_is (by omega) (by omega)) ?_
    refine mm_T.s rfl rfl rfl (fun _ => rfl) ?_
    refine mm_T.s rfl rfl rfl (fun _ => rfl) ?_
    refine mm_T.gf rfl rfl rfl rfl rfl ?_
    refine mm_T.s rfl rfl rfl (fun _ => rfl) ?_
    refine mm_T.iaN rfl rfl rfl (by omega) (by decide) rfl ?_
    refine mm_T.s rfl rfl rfl (fun _ => rfl) ?_
    refine mm_T.ti _ (show nI y >>> (e2 i &&& 31) = nI (y / 2 ^ B i) by rw [q2]; exact f2_is (by omega) (by omega)) ?_
    refine mm_T.s rfl rfl rfl (fun _ => rfl) ?_
    refine mm_T.ti _ (f2_ia (by omega) (by omega)) ?_
    refine mm_T.s rfl rfl rfl (fun _ => rfl) ?_
    refine mm_T.s rfl rfl rfl (fun _ => rfl) ?_
    refine mm_T.ti _ (f2_i1 (by omega)) ?_
    refine mm_T.s rfl rfl rfl (fun _ => rfl) ?_
    refine mm_T.s rfl rfl rfl (fun _ => rfl) ?_
    refine mm_T.ti _ (f2_ish (by omega) hlt) ?_
    refine mm_T.s rfl rfl rfl (fun _ => rfl) ?_
    refine mm_T.ti (nI (f2_b (fun t => x.testBit (A t) && y.testBit (B t)) (i + 1))) (by rw [← hs]; exact x_or _ _) ?_
    refine mm_T.s rfl rfl rfl (fun _ => rfl) ?_
    refine mm_T.s rfl rfl rfl (fun _ => rfl) ?_
    refine mm_T.s rfl rfl rfl (fun _ => rfl) ?_
    exact K _ _ ⟨_, _, nI_1 i, rfl, rfl, rfl⟩
  · skip
    rintro _ _ ⟨x3, x4, rfl, rfl, rfl, rfl⟩
    refine mm_T.s rfl rfl rfl (fun _ => rfl) ?_
    refine mm_T.s rfl rfl rfl (fun _ => rfl) ?_
    refine mm_T.gf rfl rfl rfl rfl rfl ?_
    refine mm_T.s rfl rfl rfl (fun _ => if_pos (nI_le (Nat.le_refl _) (by omega))) ?_
    refine mm_T.s rfl rfl rfl (fun _ => rfl) ?_
    exact mm_T.ret rfl rfl rfl (⟨rfl, rfl⟩)
