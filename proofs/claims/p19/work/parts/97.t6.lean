/-! SPANS: the edges of a triangle; lists; what both sides count -/
theorem f2_b1 {f : Nat → Bool} {t : Nat} (h : f t = true) : f2_b f (t + 1) = f2_b f t ||| 1 * 2 ^ t := by
  show f2_b f t ||| (if f t then 2 ^ t else 0) = _
  rw [h, if_pos rfl, Nat.one_mul]
theorem f2_b0 {f : Nat → Bool} {t : Nat} (h : f t = false) : f2_b f (t + 1) = f2_b f t := by
  show f2_b f t ||| (if f t then 2 ^ t else 0) = _
  rw [h, if_neg (by decide), Nat.or_zero]
def f2_F (A : Nat → Nat) (T z : Nat) : Nat := f2_b (fun t => z.testBit (A t)) T
theorem f2_F_lt (A : Nat → Nat) (T z : Nat) : f2_F A T z < 2 ^ T := f2_b_lt _ _
theorem f2_d_lt (A B C : Nat → Nat) (T z : Nat) : f2_d A B C T z < 2 ^ T := f2_b_lt _ _
theorem f2_p_lt (A B : Nat → Nat) (T x y : Nat) : f2_p A B T x y < 2 ^ T := f2_b_lt _ _
theorem f2_24 {x T : Nat} (h : x < 2 ^ T) (hT : T ≤ 24) : x < 2 ^ 24 := Nat.lt_of_lt_of_le h (Nat.pow_le_pow_right (by decide) hT)
theorem f2_FP (A B : Nat → Nat) (T x y : Nat) : f2_F A T x &&& f2_F B T y = f2_p A B T x y := Nat.eq_of_testBit_eq (fun i => by
  unfold f2_F f2_p
  rw [Nat.testBit_and, f2_b_t, f2_b_t, f2_b_t]
  cases decide (i < T) <;> cases x.testBit (A i) <;> cases y.testBit (B i) <;> rfl)
theorem f2_tgv {d i : Nat} (h : d < 2 ^ 24) : d ||| 2 ^ (24 + i) = d + 2 ^ 24 * 2 ^ i := by
  rw [Nat.pow_add, Nat.or_comm, ← Nat.two_pow_add_eq_or_of_lt h, Nat.add_comm]
def f2_g : List Nat → Nat → Nat
  | [], _ => 0
  | a :: _, 0 => a
  | _ :: l, j + 1 => f2_g l j
theorem f2_g_l : ∀ (l : List Nat) (z j : Nat), j < l.length → f2_g (l ++ [z]) j = f2_g l j
  | [], _, j, h => absurd h (Nat.not_lt_zero j)
  | _ :: _, _, 0, _ => rfl
  | _ :: l, z, j + 1, h => f2_g_l l z j (Nat.lt_of_succ_lt_succ h)
theorem f2_g_r : ∀ (l : List Nat) (z : Nat), f2_g (l ++ [z]) l.length = z
  | [], _ => rfl
  | _ :: l, z => f2_g_r l z
theorem f2_g_m : ∀ (l : List Nat) (j : Nat), j < l.length → f2_g l j ∈ l
  | [], j, h => absurd h (Nat.not_lt_zero j)
  | _ :: _, 0, _ => List.mem_cons_self
  | a :: l, j + 1, h => List.mem_cons_of_mem a (f2_g_m l j (Nat.lt_of_succ_lt_succ h))
theorem f2_g_e : ∀ (l : List Nat) (a : Nat), a ∈ l → ∃ j, j < l.length ∧ f2_g l j = a
  | b :: l, a, h => by
    rcases List.mem_cons.mp h with e | e
    · exact ⟨0, Nat.succ_pos _, e.symm⟩
    · obtain ⟨j, h1, h2⟩ := f2_g_e l a e
      exact ⟨j + 1, Nat.succ_lt_succ h1, h2⟩
def f2_vl (v : Nat → Nat) : Nat → List Nat
  | 0 => []
  | m + 1 => f2_vl v m ++ [v m]
theorem f2_vl_n (v : Nat → Nat) : ∀ m, (f2_vl v m).length = m
  | 0 => rfl
  | m + 1 => by
    show (f2_vl v m ++ [v m]).length = m + 1
    rw [List.length_append, f2_vl_n v m]
    rfl
theorem f2_vl_g (v : Nat → Nat) {j : Nat} : ∀ m, j < m → f2_g (f2_vl v m) j = v j
  | 0, h => absurd h (Nat.not_lt_zero j)
  | m + 1, h => by
    show f2_g (f2_vl v m ++ [v m]) j = v j
    have n := f2_vl_n v m
    by_cases e : j = m
    · have z := f2_g_r (f2_vl v m) (v m)
      rw [n] at z
      rw [e]
      exact z
    · rw [f2_g_l _ _ _ (by omega)]
      exact f2_vl_g v m (by omega)
theorem f2_vl_m {v : Nat → Nat} {a : Nat} : ∀ {m : Nat}, a ∈ f2_vl v m ↔ ∃ j, j < m ∧ v j = a
  | 0 => ⟨fun h => absurd h (List.not_mem_nil), fun ⟨j, h, _⟩ => absurd h (Nat.not_lt_zero j)⟩
  | m + 1 => by
    show a ∈ f2_vl v m ++ [v m] ↔ _
    rw [List.mem_append, List.mem_singleton, f2_vl_m (m := m)]
    constructor
    · rintro (⟨j, h1, h2⟩ | h)
      · exact ⟨j, by omega, h2⟩
      · exact ⟨m, by omega, h.symm⟩
    · rintro ⟨j, h1, h2⟩
      by_cases e : j = m
      · exact Or.inr (by rw [← h2, e])
      · exact Or.inl ⟨j, by omega, h2⟩
/-- rows R, o more than the base, over the products of the first i rows and j more -/
def f2_Y (base Z : List Nat) (P : Nat → Nat → Nat) (R : List Nat) (o i j : Nat) : Prop := f2_i R ∧ R.length = base.length + o ∧ ∃ l, (∀ y, f2_s R y ↔ f2_s (l ++ base) y) ∧ (∀ x, x ∈ l → ∃ a b, a ∈ Z ∧ b ∈ Z ∧ x = P a b) ∧ (∀ a b, a < i → b < Z.length → P (f2_g Z a) (f2_g Z b) ∈ l) ∧ ∀ b, b < j → P (f2_g Z i) (f2_g Z b) ∈ l
theorem f2_Y_0 {base Z : List Nat} {P : Nat → Nat → Nat} (h : f2_i base) : f2_Y base Z P base 0 0 0 := ⟨h, rfl, [], fun y => Iff.rfl, fun x hx => absurd hx (List.not_mem_nil), fun a b ha => absurd ha (Nat.not_lt_zero a), fun b hb => absurd hb (Nat.not_lt_zero b)⟩
theorem f2_Y_n {base Z R : List Nat} {P : Nat → Nat → Nat} {o i : Nat} (h : f2_Y base Z P R o i Z.length) : f2_Y base Z P R o (i + 1) 0 := by
  obtain ⟨h1, h2, l, h3, h4, h5, h6⟩ := h
  refine ⟨h1, h2, l, h3, h4, fun a b ha hb => ?_, fun b hb => absurd hb (Nat.not_lt_zero b)⟩
  by_cases e : a = i
  · rw [e]
    exact h6 b hb
  · exact h5 a b (by omega) hb
theorem f2_Y_s {base Z R R' : List Nat} {P : Nat → Nat → Nat} {o p i j : Nat} (h : f2_Y base Z P R o i j) (hi : i < Z.length) (hj : j < Z.length) (k1 : f2_i R') (k2 : R'.length = R.length + p) (k3 : ∀ y, f2_s R' y ↔ f2_s (P (f2_g Z i) (f2_g Z j) :: R) y) : f2_Y base Z P R' (o + p) i (j + 1) := by
  obtain ⟨h1, h2, l, h3, h4, h5, h6⟩ := h
  refine ⟨k1, by omega, P (f2_g Z i) (f2_g Z j) :: l, fun y => (k3 y).trans ⟨fun q => Or.imp (h3 _).mp (h3 _).mp q, fun q => Or.imp (h3 _).mpr (h3 _).mpr q⟩, fun x hx => ?_, fun a b ha hb => List.mem_cons_of_mem _ (h5 a b ha hb), fun b hb => ?_⟩
  · rcases List.mem_cons.mp hx with e | e
    · exact ⟨_, _, f2_g_m Z i hi, f2_g_m Z j hj, e⟩
    · exact h4 x e
  · by_cases e : b = j
    · rw [e]
      exact List.mem_cons_self
    · exact List.mem_cons_of_mem _ (h6 b (by omega))
theorem f2_Y_sub {A B : Nat → Nat} {T : Nat} {b1 b2 Z1 Z2 R1 R2 : List Nat} {o1 o2 : Nat} (h1 : f2_Y b1 Z1 (f2_p A B T) R1 o1 Z1.length 0) (h2 : f2_Y b2 Z2 (f2_p A B T) R2 o2 Z2.length 0) (hb : ∀ y, f2_s b1 y → f2_s b2 y) (hz : ∀ z, z ∈ Z1 → f2_s Z2 z) : ∀ x, x ∈ R1 → f2_s R2 x := by
  obtain ⟨-, -, l1, s1, m1, -, -⟩ := h1
  obtain ⟨-, -, l2, s2, -, m2, -⟩ := h2
  intro x hx
  refine f2_sub _ _ (fun a ha => ?_) x ((s1 x).mp (f2_mem R1 x hx))
  rcases List.mem_append.mp ha with q | q
  · obtain ⟨u, w, hu, hw, e⟩ := m1 a q
    rw [e]
    refine f2_pp A B T (fun x y hx hy => ?_) u w (hz u hu) (hz w hw)
    obtain ⟨i, hi, ei⟩ := f2_g_e Z2 x hx
    obtain ⟨j, hj, ej⟩ := f2_g_e Z2 y hy
    rw [← ei, ← ej]
    exact (s2 _).mpr (f2_mem _ _ (List.mem_append_left _ (m2 i j hi hj)))
  · exact (s2 a).mpr (f2_sub _ _ (fun c hc => f2_mem _ c (List.mem_append_right _ hc)) a (hb a (f2_mem _ a q)))
/-- what both sides count -/
def f2_O (A B C : Nat → Nat) (T n o : Nat) : Prop := ∃ b Z R, f2_Y b Z (f2_p A B T) R o Z.length 0 ∧ f2_i b ∧ (∀ y, f2_s b y ↔ f2_s ((List.range n).map (fun e => f2_d A B C T (2 ^ e))) y) ∧ (∀ z, z ∈ Z → f2_d A B C T z = 0 ∧ z < 2 ^ n) ∧ ∀ z, z < 2 ^ n → f2_d A B C T z = 0 → f2_s Z z
theorem f2_O_eq {A B C : Nat → Nat} {T n o1 o2 : Nat} (h1 : f2_O A B C T n o1) (h2 : f2_O A B C T n o2) : o1 = o2 := by
  obtain ⟨b1, Z1, R1, y1, i1, s1, m1, a1⟩ := h1
  obtain ⟨b2, Z2, R2, y2, i2, s2, m2, a2⟩ := h2
  have hb : ∀ y, f2_s b1 y ↔ f2_s b2 y := fun y => (s1 y).trans (s2 y).symm
  have e1 := f2_eq i1 i2 (fun a ha => (hb a).mp (f2_mem _ a ha)) (fun a ha => (hb a).mpr (f2_mem _ a ha))
  have e2 := f2_eq y1.1 y2.1 (f2_Y_sub y1 y2 (fun y => (hb y).mp) (fun z hz => a2 z (m1 z hz).2 (m1 z hz).1)) (f2_Y_sub y2 y1 (fun y => (hb y).mpr) (fun z hz => a1 z (m2 z hz).2 (m2 z hz).1))
  have k1 := y1.2.1
  have k2 := y2.2.1
  omega
/-- the counter's walk, step by step -/
theorem f2_t_01 (r : Nat → Nat) (x : Nat) : (f2_t r x).2 = 0 ∨ (f2_t r x).2 = 1 := by
  unfold f2_t
  split
  · exact Or.inr rfl
  · exact Or.inl rfl
theorem f2_t_lb {r : Nat → Nat} {x : Nat} (h : (f2_t r x).2 = 0) : ¬ f2_lb (f2_r r 24 0 x) 24 0 < 24 := fun q => by
  unfold f2_t at h
  rw [if_pos q] at h
  cases h
theorem f2_t_r {r : Nat → Nat} {x : Nat} (h : (f2_t r x).2 = 0) : (f2_t r x).1 = r := by
  unfold f2_t
  rw [if_neg (f2_t_lb h)]
theorem f2_c_y {D : Nat → Nat} {e : Nat} (h : ¬ (f2_t (f2_c D e).1 (D (2 ^ e) + 2 ^ 24 * 2 ^ e)).2 = 0) : f2_c D (e + 1) = ((f2_t (f2_c D e).1 (D (2 ^ e) + 2 ^ 24 * 2 ^ e)).1, (f2_c D e).2) := by
  refine if_pos (Classical.byContradiction (fun q => h ?_))
  unfold f2_t
  rw [if_neg q]
theorem f2_c_n {D : Nat → Nat} {e : Nat} (h : (f2_t (f2_c D e).1 (D (2 ^ e) + 2 ^ 24 * 2 ^ e)).2 = 0) : f2_c D (e + 1) = ((f2_c D e).1, (f2_c D e).2 ++ [f2_r (f2_c D e).1 24 0 (D (2 ^ e) + 2 ^ 24 * 2 ^ e) / 2 ^ 24]) := if_neg (f2_t_lb h)
theorem f2_c_len (D : Nat → Nat) : ∀ e, (f2_c D e).2.length ≤ e
  | 0 => Nat.le_refl _
  | e + 1 => by
    have ih := f2_c_len D e
    by_cases h : (f2_t (f2_c D e).1 (D (2 ^ e) + 2 ^ 24 * 2 ^ e)).2 = 0
    · rw [f2_c_n h]
      show ((f2_c D e).2 ++ [_]).length ≤ e + 1
      rw [List.length_append]
      exact Nat.succ_le_succ ih
    · rw [f2_c_y h]
      exact Nat.le_succ_of_le ih
/-- the reference's candidates: all that has no bit below t is spanned -/
def f2_K (D : Nat → Nat) (n t m : Nat) (v : Nat → Nat) : Prop := (∀ i, i < m → v i < 2 ^ n ∧ ∀ b, b < t → (D (v i)).testBit b = false) ∧ ∀ z, z < 2 ^ n → (∀ b, b < t → (D z).testBit b = false) → f2_s (f2_vl v m) z
def f2_Ka (D : Nat → Nat) (n t m e : Nat) (v : Nat → Nat) : Prop := f2_K D n t m v ∧ ∀ i, i < e → (D (v i)).testBit t = false
def f2_Kb (D : Nat → Nat) (n t m e : Nat) (v : Nat → Nat) (j : Nat) : Prop := f2_K D n t m v ∧ j < e ∧ (D (v j)).testBit t = true ∧ ∀ i, i < e → i ≠ j → (D (v i)).testBit t = false
theorem f2_K_sp : ∀ n z, z < 2 ^ n → f2_s (f2_vl (fun i => 2 ^ i) n) z
  | 0, z, h => by
    rw [Nat.pow_zero] at h
    rw [show z = 0 by omega]
    exact f2_0 _
  | n + 1, z, h => by
    have up : ∀ u, f2_s (f2_vl (fun i => 2 ^ i) n) u → f2_s (f2_vl (fun i => 2 ^ i) (n + 1)) u := f2_sub _ _ (fun a ha => f2_mem _ a (List.mem_append_left _ ha))
    rcases f2_two h with q | q
    · exact up z (f2_K_sp n z q)
    · have w := f2_add _ _ _ (up _ (f2_K_sp n _ q)) (f2_mem (f2_vl (fun i => 2 ^ i) (n + 1)) (2 ^ n) (List.mem_append_right _ (List.mem_singleton.mpr rfl)))
      rwa [f2_xx] at w
theorem f2_K_0 (D : Nat → Nat) (n : Nat) : f2_K D n 0 n (fun i => 2 ^ i) := ⟨fun i hi => ⟨Nat.pow_lt_pow_right (by decide) hi, fun b hb => absurd hb (Nat.not_lt_zero b)⟩, fun z hz _ => f2_K_sp n z hz⟩
theorem f2_Ka_0 {D : Nat → Nat} {n t m : Nat} {v : Nat → Nat} (h : f2_K D n t m v) : f2_Ka D n t m 0 v := ⟨h, fun i hi => absurd hi (Nat.not_lt_zero i)⟩
theorem f2_Ka_a {D : Nat → Nat} {n t m e : Nat} {v : Nat → Nat} (h : f2_Ka D n t m e v) (hb : (D (v e)).testBit t = false) : f2_Ka D n t m (e + 1) v := ⟨h.1, fun i hi => by
  by_cases q : i = e
  · rw [q]
    exact hb
  · exact h.2 i (by omega)⟩
theorem f2_Ka_b {D : Nat → Nat} {n t m e : Nat} {v : Nat → Nat} (h : f2_Ka D n t m e v) (hb : (D (v e)).testBit t = true) : f2_Kb D n t m (e + 1) v e := ⟨h.1, by omega, hb, fun i hi q => h.2 i (by omega)⟩
theorem f2_Kb_b {D : Nat → Nat} {n t m e : Nat} {v : Nat → Nat} {j : Nat} (h : f2_Kb D n t m e v j) (hb : (D (v e)).testBit t = false) : f2_Kb D n t m (e + 1) v j := ⟨h.1, Nat.lt_succ_of_lt h.2.1, h.2.2.1, fun i hi q => by
  by_cases c : i = e
  · rw [c]
    exact hb
  · exact h.2.2.2 i (by omega) q⟩
theorem f2_Kb_x {D : Nat → Nat} (hD : ∀ x y, D (x ^^^ y) = D x ^^^ D y) {n t m e : Nat} {v : Nat → Nat} {j : Nat} (h : f2_Kb D n t m e v j) (he : e < m) (hb : (D (v e)).testBit t = true) : f2_Kb D n t m (e + 1) (fun i => if i = e then v e ^^^ v j else v i) j := by
  obtain ⟨⟨h1, h2⟩, h3, h4, h5⟩ := h
  refine ⟨⟨fun i hi => ?_, fun z hz h0 => ?_⟩, by omega, ?_, fun i hi hij => ?_⟩
  · show (if i = e then v e ^^^ v j else v i) < 2 ^ n ∧ ∀ b, b < t → (D (if i = e then v e ^^^ v j else v i)).testBit b = false
    by_cases q : i = e
    · rw [if_pos q]
      refine ⟨f2_xlt (h1 e he).1 (h1 j (by omega)).1, fun b hb => ?_⟩
      rw [hD, Nat.testBit_xor, (h1 e he).2 b hb, (h1 j (by omega)).2 b hb]
      rfl
    · rw [if_neg q]
      exact h1 i hi
  · refine f2_sub _ _ (fun a ha => ?_) z (h2 z hz h0)
    obtain ⟨i, hi, ei⟩ := f2_vl_m.mp ha
    by_cases q : i = e
    · have a1 : f2_s (f2_vl (fun i => if i = e then v e ^^^ v j else v i) m) (v e ^^^ v j) := f2_mem _ _ (f2_vl_m.mpr ⟨e, he, if_pos rfl⟩)
      have a2 : f2_s (f2_vl (fun i => if i = e then v e ^^^ v j else v i) m) (v j) := f2_mem _ _ (f2_vl_m.mpr ⟨j, by omega, if_neg (by omega)⟩)
      have w := f2_add _ _ _ a1 a2
      rw [f2_xx] at w
      rw [← ei, q]
      exact w
    · exact f2_mem _ _ (f2_vl_m.mpr ⟨i, hi, (if_neg q).trans ei⟩)
  · show (D (if j = e then v e ^^^ v j else v j)).testBit t = true
    rw [if_neg (by omega)]
    exact h4
  · show (D (if i = e then v e ^^^ v j else v i)).testBit t = false
    by_cases q : i = e
    · rw [if_pos q, hD, Nat.testBit_xor, hb, h4]
      rfl
    · rw [if_neg q]
      exact h5 i (by omega) hij
theorem f2_Ka_e {D : Nat → Nat} {n t m : Nat} {v : Nat → Nat} (h : f2_Ka D n t m m v) : f2_K D n (t + 1) m v := ⟨fun i hi => ⟨(h.1.1 i hi).1, fun b hb => by
  by_cases q : b = t
  · rw [q]
    exact h.2 i hi
  · exact (h.1.1 i hi).2 b (by omega)⟩, fun z hz h0 => h.1.2 z hz (fun b hb => h0 b (by omega))⟩
theorem f2_Kb_e {D : Nat → Nat} (hD0 : D 0 = 0) (hD : ∀ x y, D (x ^^^ y) = D x ^^^ D y) {n t m : Nat} {v : Nat → Nat} {j : Nat} (h : f2_Kb D n t (m + 1) (m + 1) v j) : f2_K D n (t + 1) m (fun i => if i = j then v m else v i) := by
  obtain ⟨⟨h1, h2⟩, h3, h4, h5⟩ := h
  have hv : ∀ i, i < m → (if i = j then v m else v i) < 2 ^ n ∧ ∀ b, b < t + 1 → (D (if i = j then v m else v i)).testBit b = false := fun i hi => by
    by_cases q : i = j
    · rw [if_pos q]
      refine ⟨(h1 m (by omega)).1, fun b hb => ?_⟩
      by_cases c : b = t
      · rw [c]
        exact h5 m (by omega) (by omega)
      · exact (h1 m (by omega)).2 b (by omega)
    · rw [if_neg q]
      refine ⟨(h1 i (by omega)).1, fun b hb => ?_⟩
      by_cases c : b = t
      · rw [c]
        exact h5 i (by omega) q
      · exact (h1 i (by omega)).2 b (by omega)
  refine ⟨hv, fun z hz h0 => ?_⟩
  have hs : f2_s (v j :: f2_vl (fun i => if i = j then v m else v i) m) z := f2_sub _ _ (fun a ha => by
    obtain ⟨i, hi, ei⟩ := f2_vl_m.mp ha
    by_cases q : i = j
    · rw [← ei, q]
      exact f2_mem _ _ List.mem_cons_self
    · refine f2_mem _ _ (List.mem_cons_of_mem _ (f2_vl_m.mpr ?_))
      by_cases c : i = m
      · refine ⟨j, by omega, ?_⟩
        show (if j = j then v m else v j) = a
        rw [if_pos rfl, ← ei, c]
      · exact ⟨i, by omega, (if_neg q).trans ei⟩) z (h2 z hz (fun b hb => h0 b (by omega)))
  rcases hs with q | q
  · exact q
  · exfalso
    have z1 := f2_map hD0 hD _ _ q
    have z2 := f2_bit0 (b := t) _ (fun a ha => by
      obtain ⟨u, hu, eu⟩ := List.mem_map.mp ha
      obtain ⟨i, hi, ei⟩ := f2_vl_m.mp hu
      rw [← eu, ← ei]
      exact (hv i hi).2 t (by omega)) _ z1
    rw [hD, Nat.testBit_xor, h0 t (by omega), h4] at z2
    cases z2
