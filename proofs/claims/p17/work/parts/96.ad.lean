/-! ADDING A SET, on both sides -/
theorem x_A_tr {s q p : Nat} (h1 : x_A s q) (h2 : x_A q p) : x_A s p := by
  have e : (Int32.ofInt (-1)).toBitVec = BitVec.allOnes 32 := by decide
  have f1 := congrArg Int32.toBitVec h1
  have f2 := congrArg Int32.toBitVec h2
  rw [Int32.toBitVec_and, Int32.toBitVec_xor, e] at f1 f2
  apply Int32.toBitVec_inj.mp
  rw [Int32.toBitVec_and, Int32.toBitVec_xor, e]
  apply BitVec.eq_of_getLsbD_eq
  intro i hi
  have g1 := congrArg (fun b => b.getLsbD i) f1
  have g2 := congrArg (fun b => b.getLsbD i) f2
  simp only [BitVec.getLsbD_and, BitVec.getLsbD_xor, BitVec.getLsbD_allOnes, hi, decide_true, Bool.xor_true] at g1 g2 ⊢
  have z : (0 : Int32).toBitVec.getLsbD i = false := by simp
  rw [z] at g1 g2 ⊢
  revert g1 g2
  cases (nI q).toBitVec.getLsbD i <;> cases (nI s).toBitVec.getLsbD i <;> cases (nI p).toBitVec.getLsbD i <;> simp
def x_FL (s : Nat) : Prop := x_fc s (x_N s) ≤ 0 ∧ (List.range (x_N s)).map (x_fc s) = ((x_fl s).map nI).reverse ∧ (∀ q, q ∈ x_fl s → q ≤ s) ∧ ∀ q, q ∈ x_fl s → ∃ k, k < 4 ∧ x_dm (nI q) = nI k
theorem x_FL.fc {s : Nat} (h : x_FL s) : x_fc s (x_N s) ≤ 0 := h.1
theorem x_FL.li {s : Nat} (h : x_FL s) : (List.range (x_N s)).map (x_fc s) = ((x_fl s).map nI).reverse := h.2.1
theorem x_FL.le {s : Nat} (h : x_FL s) : ∀ q, q ∈ x_fl s → q ≤ s := h.2.2.1
theorem x_FL.dm {s : Nat} (h : x_FL s) : ∀ q, q ∈ x_fl s → ∃ k, k < 4 ∧ x_dm (nI q) = nI k := h.2.2.2
theorem x_fl_mem {s q : Nat} : q ∈ x_fl s ↔ q < 256 ∧ 1 ≤ q ∧ x_A s q := by
  unfold x_fl
  rw [List.mem_filter, List.mem_range, Bool.and_eq_true, decide_eq_true_eq, decide_eq_true_eq]
theorem x_FL_ok {s : Nat} (hs : s < 256) (h4 : x_sz8 (nI s) 8 ≤ 4) : x_FL s := by
  have h1 := List.all_eq_true.mp x_flT s (List.mem_range.mpr hs)
  simp only [Bool.or_eq_true, Bool.not_eq_true', Bool.and_eq_true, decide_eq_true_eq, decide_eq_false_iff_not] at h1
  obtain ⟨⟨h2, h3⟩, h5⟩ := h1.resolve_left (fun q => q h4)
  have h6 : ∀ q, q ∈ x_fl s → (q ≤ s ∧ x_sz8 (nI q) 8 ≤ 4) ∧ 1 ≤ x_sz8 (nI q) 8 := fun q hq => by
    have := List.all_eq_true.mp h5 q hq
    simpa only [Bool.and_eq_true, decide_eq_true_eq] using this
  refine ⟨h2, h3, fun q hq => (h6 q hq).1.1, fun q hq => ?_⟩
  have hq2 := (x_fl_mem.mp hq).1
  have a1 := (h6 q hq).1.2
  have a2 := (h6 q hq).2
  rw [Int32.le_iff_toInt_le, show (4 : Int32).toInt = 4 from rfl] at a1
  rw [Int32.le_iff_toInt_le, show (1 : Int32).toInt = 1 from rfl] at a2
  refine ⟨(x_sz8 (nI q) 8).toInt.toNat - 1, by omega, (x_dm_sz hq2 _).mpr ?_⟩
  rw [nI_1]
  exact Int32.toInt_inj.mp (by rw [nI_toInt (by omega)]; omega)
theorem x_FL.at {s : Nat} (h : x_FL s) {t : Nat} (ht : t < x_N s) : ∃ q, q ∈ x_fl s ∧ x_fc s t = nI q := by
  have h1 : x_fc s t ∈ (List.range (x_N s)).map (x_fc s) := List.mem_map.mpr ⟨t, List.mem_range.mpr ht, rfl⟩
  rw [h.li, List.mem_reverse, List.mem_map] at h1
  obtain ⟨q, hq, e⟩ := h1
  exact ⟨q, hq, e.symm⟩
theorem x_FL.okA {s : Nat} (h : x_FL s) : x_okA s := by
  refine ⟨fun t ht => ?_, h.fc⟩
  obtain ⟨q, hq, e⟩ := h.at ht
  obtain ⟨h1, h2, -⟩ := x_fl_mem.mp hq
  obtain ⟨k, hk, ek⟩ := h.dm q hq
  rw [e, ek, nI_toInt (by omega), nI_toInt (by omega)]
  exact ⟨nI_ge (a := 0) (by omega) (by omega), ⟨by omega, by omega⟩, by omega, by omega⟩
/-- new faces of a dimension -/
def x_gP (pl : Nat → Int32) (k : Nat) (x : Int32) : Bool := decide (pl x.toNatClampNeg = -1) && decide ((x_dm x).toNatClampNeg = k)
theorem x_gn_c (s : Nat) (pl g : Nat → Int32) (k : Nat) : ∀ t, x_gn s pl g t k = g k + nI (((List.range t).map (x_fc s)).countP (x_gP pl k))
  | 0 => (Int32.add_zero _).symm
  | t + 1 => by
    have ih := x_gn_c s pl g k t
    rw [List.range_succ, List.map_append, List.countP_append]
    show (if pl (x_fc s t).toNatClampNeg = -1 then upd (x_gn s pl g t) (x_dm (x_fc s t)).toNatClampNeg (x_gn s pl g t (x_dm (x_fc s t)).toNatClampNeg + 1) else x_gn s pl g t) k = g k + nI (((List.range t).map (x_fc s)).countP (x_gP pl k) + [x_fc s t].countP (x_gP pl k))
    rw [List.countP_singleton]
    by_cases c : pl (x_fc s t).toNatClampNeg = -1
    · rw [if_pos c, x_ui]
      by_cases e : k = (x_dm (x_fc s t)).toNatClampNeg
      · rw [if_pos e, ← e, ih, if_pos (by unfold x_gP; rw [decide_eq_true c, decide_eq_true e.symm]; rfl), ← nI_1, Int32.add_assoc]
      · rw [if_neg e, ih, if_neg (by unfold x_gP; rw [decide_eq_false (show ¬ (x_dm (x_fc s t)).toNatClampNeg = k from fun z => e z.symm)]; simp), Nat.add_zero]
    · rw [if_neg c, ih, if_neg (by unfold x_gP; rw [decide_eq_false c]; simp), Nat.add_zero]
theorem x_pp_c (s : Nat) (pl : Nat → Int32) (j : Nat) : ∀ t, x_pp s pl t j = if (∃ u, u < t ∧ (x_fc s u).toNatClampNeg = j) then 0 else pl j
  | 0 => (if_neg (fun ⟨u, h, _⟩ => absurd h (Nat.not_lt_zero u))).symm
  | t + 1 => by
    show upd (x_pp s pl t) (x_fc s t).toNatClampNeg 0 j = _
    rw [x_ui, x_pp_c s pl j t]
    by_cases e : j = (x_fc s t).toNatClampNeg
    · rw [if_pos e, if_pos ⟨t, by omega, e.symm⟩]
    · rw [if_neg e]
      by_cases c : ∃ u, u < t ∧ (x_fc s u).toNatClampNeg = j
      · obtain ⟨u, h1, h2⟩ := c
        rw [if_pos ⟨u, h1, h2⟩, if_pos ⟨u, by omega, h2⟩]
      · rw [if_neg c, if_neg (fun ⟨u, h1, h2⟩ => c ⟨u, by
          have : u ≠ t := fun z => e (by rw [← z]; exact h2.symm)
          omega, h2⟩)]
theorem x_FL.pp {s : Nat} (h : x_FL s) (pl : Nat → Int32) (j : Nat) : x_pp s pl (x_N s) j = if j ∈ x_fl s then 0 else pl j := by
  rw [x_pp_c]
  by_cases c : j ∈ x_fl s
  · have h1 : nI j ∈ ((x_fl s).map nI).reverse := List.mem_reverse.mpr (List.mem_map.mpr ⟨j, c, rfl⟩)
    rw [← h.li, List.mem_map] at h1
    obtain ⟨t, ht, e⟩ := h1
    have := (x_fl_mem.mp c).1
    rw [if_pos c, if_pos ⟨t, List.mem_range.mp ht, by rw [e, mm_cl (by omega)]⟩]
  · have hne : ¬ ∃ u, u < x_N s ∧ (x_fc s u).toNatClampNeg = j := by
      rintro ⟨u, hu, e⟩
      obtain ⟨q, hq, eq⟩ := h.at hu
      have := (x_fl_mem.mp hq).1
      rw [eq, mm_cl (by omega)] at e
      rw [← e] at c
      exact c hq
    rw [if_neg c, if_neg hne]
theorem x_countP_c {α : Type} {p q : α → Bool} : ∀ (l : List α), (∀ x, x ∈ l → p x = q x) → l.countP p = l.countP q
  | [], _ => rfl
  | a :: l, h => by
    rw [List.countP_cons, List.countP_cons, x_countP_c l (fun x hx => h x (List.mem_cons_of_mem a hx)), h a List.mem_cons_self]
/-- the reference's counts, over the list of faces -/
theorem x_an_c (has : Nat → Int32) (n s : Nat) (k : Int32) : ∀ t, t ≤ 255 → x_an has n s k t = (List.range (t + 1)).countP (fun q => decide (1 ≤ q) && decide (x_nw has n s k q))
  | 0, _ => rfl
  | t + 1, ht => by
    rw [List.range_succ, List.countP_append, ← x_an_c has n s k t (by omega), List.countP_singleton]
    by_cases c : x_nw has n s k (t + 1)
    · rw [show x_an has n s k (t + 1) = x_an has n s k t + 1 from if_pos c, if_pos (by rw [decide_eq_true c, decide_eq_true (show 1 ≤ t + 1 by omega)]; rfl)]
    · rw [show x_an has n s k (t + 1) = x_an has n s k t from if_neg c, if_neg (by rw [decide_eq_false c]; simp)]
      rfl
theorem x_mw_c (has : Nat → Int32) (n s : Nat) : ∀ t, t ≤ 255 → x_mw has n s t = (List.range (t + 1)).countP (fun q => decide (1 ≤ q) && decide (x_A s q ∧ has (256 * n + q) = 0))
  | 0, _ => rfl
  | t + 1, ht => by
    rw [List.range_succ, List.countP_append, ← x_mw_c has n s t (by omega), List.countP_singleton]
    by_cases c : x_A s (t + 1) ∧ has (256 * n + (t + 1)) = 0
    · rw [show x_mw has n s (t + 1) = x_mw has n s t + 1 from if_pos c, if_pos (by rw [decide_eq_true c, decide_eq_true (show 1 ≤ t + 1 by omega)]; rfl)]
    · rw [show x_mw has n s (t + 1) = x_mw has n s t from if_neg c, if_neg (by rw [decide_eq_false c]; simp)]
      rfl
theorem x_FL.an_hi {s : Nat} (h : x_FL s) (hs : s < 256) (has : Nat → Int32) (n : Nat) (k : Int32) : ∀ d, s + d ≤ 255 → x_an has n s k (s + d) = x_an has n s k s
  | 0, _ => rfl
  | d + 1, hd => by
    rw [← h.an_hi hs has n k d (by omega)]
    refine if_neg (fun q => ?_)
    have := h.le (s + d + 1) (x_fl_mem.mpr ⟨by omega, by omega, q.1⟩)
    omega
theorem x_FL.mw_hi {s : Nat} (h : x_FL s) (hs : s < 256) (has : Nat → Int32) (n : Nat) : ∀ d, s + d ≤ 255 → x_mw has n s (s + d) = x_mw has n s s
  | 0, _ => rfl
  | d + 1, hd => by
    rw [← h.mw_hi hs has n d (by omega)]
    refine if_neg (fun q => ?_)
    have := h.le (s + d + 1) (x_fl_mem.mpr ⟨by omega, by omega, q.1⟩)
    omega
/-- new faces, as both sides count them -/
def x_nf (pl : Nat → Int32) (s k : Nat) : Nat := (x_fl s).countP (fun q => decide (pl q = -1) && decide (x_dm (nI q) = nI k))
def x_nx (pl : Nat → Int32) (s : Nat) : Nat := (x_fl s).countP (fun q => decide (pl q = -1))
theorem x_FL.gn {s : Nat} (h : x_FL s) (pl g : Nat → Int32) (k : Nat) (hk : k < 4) : x_gn s pl g (x_N s) k = g k + nI (x_nf pl s k) := by
  rw [x_gn_c, h.li, List.countP_reverse, List.countP_map]
  unfold x_nf
  rw [x_countP_c (x_fl s) (fun q hq => ?_)]
  obtain ⟨k', hk', e⟩ := h.dm q hq
  have := (x_fl_mem.mp hq).1
  show x_gP pl k (nI q) = _
  unfold x_gP
  rw [mm_cl (by omega), e, mm_cl (by omega)]
  by_cases c : k' = k
  · rw [c, decide_eq_true rfl, decide_eq_true rfl]
  · rw [decide_eq_false c, decide_eq_false (fun z => c ((nI_eq (by omega) (by omega)).mp z))]
theorem x_FL.an {s : Nat} (h : x_FL s) (hs : s < 256) {pl ke has kp : Nat → Int32} {n : Nat} (hJ : x_J1 pl ke has kp n) (k : Nat) : x_an has n s (nI k) s = x_nf pl s k := by
  have e := h.an_hi hs has n (nI k) (255 - s) (by omega)
  rw [show s + (255 - s) = 255 by omega] at e
  rw [← e, x_an_c has n s (nI k) 255 (Nat.le_refl _)]
  unfold x_nf x_fl
  rw [List.countP_filter]
  refine x_countP_c _ (fun q hq => ?_)
  have hq2 := List.mem_range.mp hq
  have z := hJ.1 q hq2
  have z2 := x_dm_sz hq2 (nI k)
  rw [Bool.eq_iff_iff]
  simp only [Bool.and_eq_true, decide_eq_true_eq]
  unfold x_nw
  rw [z, z2]
  constructor
  · rintro ⟨a, b, c, d⟩
    exact ⟨⟨d, c⟩, a, b⟩
  · rintro ⟨⟨d, c⟩, a, b⟩
    exact ⟨a, b, c, d⟩
theorem x_FL.mw {s : Nat} (h : x_FL s) (hs : s < 256) {pl ke has kp : Nat → Int32} {n : Nat} (hJ : x_J1 pl ke has kp n) : x_mw has n s s = x_nx pl s := by
  have e := h.mw_hi hs has n (255 - s) (by omega)
  rw [show s + (255 - s) = 255 by omega] at e
  rw [← e, x_mw_c has n s 255 (Nat.le_refl _)]
  unfold x_nx x_fl
  rw [List.countP_filter]
  refine x_countP_c _ (fun q hq => ?_)
  have hq2 := List.mem_range.mp hq
  have z := hJ.1 q hq2
  rw [Bool.eq_iff_iff]
  simp only [Bool.and_eq_true, decide_eq_true_eq]
  rw [z]
  constructor
  · rintro ⟨a, b, c⟩
    exact ⟨c, a, b⟩
  · rintro ⟨c, a, b⟩
    exact ⟨a, b, c⟩
theorem x_cnt4 {pl : Nat → Int32} : ∀ (l : List Nat), (∀ q, q ∈ l → ∃ k, k < 4 ∧ x_dm (nI q) = nI k) → l.countP (fun q => decide (pl q = -1) && decide (x_dm (nI q) = nI 0)) + l.countP (fun q => decide (pl q = -1) && decide (x_dm (nI q) = nI 1)) + l.countP (fun q => decide (pl q = -1) && decide (x_dm (nI q) = nI 2)) + l.countP (fun q => decide (pl q = -1) && decide (x_dm (nI q) = nI 3)) = l.countP (fun q => decide (pl q = -1))
  | [], _ => rfl
  | a :: l, h => by
    have ih := x_cnt4 (pl := pl) l (fun q hq => h q (List.mem_cons_of_mem a hq))
    obtain ⟨k, hk, e⟩ := h a List.mem_cons_self
    rw [List.countP_cons, List.countP_cons, List.countP_cons, List.countP_cons, List.countP_cons, e]
    have hk2 : k = 0 ∨ k = 1 ∨ k = 2 ∨ k = 3 := by omega
    by_cases c : pl a = -1
    · rcases hk2 with rfl | rfl | rfl | rfl <;> simp only [c, decide_true, Bool.true_and, decide_eq_true_eq, if_true] <;> (rw [← ih]; simp only [show (nI 0 = nI 1) = False from eq_false (by decide), show (nI 0 = nI 2) = False from eq_false (by decide), show (nI 0 = nI 3) = False from eq_false (by decide), show (nI 1 = nI 0) = False from eq_false (by decide), show (nI 1 = nI 2) = False from eq_false (by decide), show (nI 1 = nI 3) = False from eq_false (by decide), show (nI 2 = nI 0) = False from eq_false (by decide), show (nI 2 = nI 1) = False from eq_false (by decide), show (nI 2 = nI 3) = False from eq_false (by decide), show (nI 3 = nI 0) = False from eq_false (by decide), show (nI 3 = nI 1) = False from eq_false (by decide), show (nI 3 = nI 2) = False from eq_false (by decide), if_false, if_true]; omega)
    · simp only [c, decide_false, Bool.false_and, if_false, Bool.false_eq_true]
      omega
theorem x_fl_len (s : Nat) : (x_fl s).length ≤ 256 := by
  unfold x_fl
  refine Nat.le_trans (List.length_filter_le _ _) ?_
  rw [List.length_range]
  exact Nat.le_refl _
theorem x_nf_le (pl : Nat → Int32) (s k : Nat) : x_nf pl s k ≤ 256 := Nat.le_trans List.countP_le_length (x_fl_len s)
theorem x_FL.sm {s : Nat} (h : x_FL s) (pl g : Nat → Int32) (hg : ∀ k, k < 4 → g k = 0) : x_sm (x_gn s pl g (x_N s)) 4 = nI (x_nx pl s) := by
  show 0 + x_gn s pl g (x_N s) 0 + x_gn s pl g (x_N s) 1 + x_gn s pl g (x_N s) 2 + x_gn s pl g (x_N s) 3 = _
  rw [h.gn pl g 0 (by decide), h.gn pl g 1 (by decide), h.gn pl g 2 (by decide), h.gn pl g 3 (by decide), hg 0 (by decide), hg 1 (by decide), hg 2 (by decide), hg 3 (by decide)]
  have e := x_cnt4 (pl := pl) (x_fl s) h.dm
  show 0 + (0 + nI (x_nf pl s 0)) + (0 + nI (x_nf pl s 1)) + (0 + nI (x_nf pl s 2)) + (0 + nI (x_nf pl s 3)) = _
  rw [Int32.zero_add, Int32.zero_add, Int32.zero_add, Int32.zero_add, Int32.zero_add, nI_add, nI_add, nI_add]
  exact congrArg nI e
